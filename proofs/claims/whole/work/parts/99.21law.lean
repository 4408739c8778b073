/-! ===== the law, 2: each call: printed by gen/c3.py ===== -/
section LAWC
variable {G : vx_G} {nm : String} {b Ls : Nat} {xs : Nat → Int32} {ce sl : Nat} {d m : mS} {c k : Nat}
set_option maxHeartbeats 2000000 in
theorem lc_line (hr : rel d m c) (hc : c + 14 < 2147483648) (hk : 5 * k + 5 ≤ Ls) (hL : Ls ≤ 2560) (hce : ce ≤ 600000) (hsl : sl ≤ 7302250) (fin : ∀ d' m' c', c' ≤ c + 14 → rel d' m' c' → xV (lF G nm b Ls xs) 939 [none, some (.ref 0), some (.ref MB), some (.int (nI (5 * k)))] [] NT (hp (dk d') m') ce sl) : xV (lF G nm b Ls xs) 156 [none, some (.ref 0), some (.ref MB), some (.int (nI (5 * k)))] [] NT (hp (dk d) m) ce sl := by
  refine x_aload1 dL_law_156 ?_
  refine l_arg (5 * k + 1) dL_law_157 dL_law_158 dL_law_159 dL_law_160 dL_law_161 (nI_add (5 * k) 1) (by omega) hL ?_
  refine l_arg (5 * k + 2) dL_law_162 dL_law_163 dL_law_164 dL_law_165 dL_law_166 (nI_add (5 * k) 2) (by omega) hL ?_
  refine l_arg (5 * k + 3) dL_law_167 dL_law_168 dL_law_169 dL_law_170 dL_law_171 (nI_add (5 * k) 3) (by omega) hL ?_
  refine l_arg (5 * k + 4) dL_law_172 dL_law_173 dL_law_174 dL_law_175 dL_law_176 (nI_add (5 * k) 4) (by omega) hL ?_
  obtain ⟨dd, P, hdd, hK, hk1⟩ := s_line G hr hc (xs (5 * k + 1)) (xs (5 * k + 2)) (xs (5 * k + 3)) (xs (5 * k + 4))
  obtain ⟨f9, e9⟩ := dk_0 (d := d) (m := m)
  refine x_callV4i mvL_13 hK (Nat.le_of_ble_eq_true rfl) e9 (l_room (Nat.le_of_ble_eq_true rfl) hdd hce hsl) (Nat.le_of_ble_eq_true rfl) dL_law_177 (fun r n' h' hP => ?_)
  obtain ⟨rfl, d', rfl, dm, Q, hdm, hK2, hk2⟩ := hk1 r n' h' hP
  refine x_aload2 dL_law_180 ?_
  refine l_arg (5 * k + 1) dL_law_181 dL_law_182 dL_law_183 dL_law_184 dL_law_185 (nI_add (5 * k) 1) (by omega) hL ?_
  refine l_arg (5 * k + 2) dL_law_186 dL_law_187 dL_law_188 dL_law_189 dL_law_190 (nI_add (5 * k) 2) (by omega) hL ?_
  refine l_arg (5 * k + 3) dL_law_191 dL_law_192 dL_law_193 dL_law_194 dL_law_195 (nI_add (5 * k) 3) (by omega) hL ?_
  refine l_arg (5 * k + 4) dL_law_196 dL_law_197 dL_law_198 dL_law_199 dL_law_200 (nI_add (5 * k) 4) (by omega) hL ?_
  refine x_callV4i mvL_17 hK2 (Nat.le_of_ble_eq_true rfl) (hp_m0 (dk d') m) (l_room (Nat.le_of_ble_eq_true rfl) hdm hce hsl) (Nat.le_of_ble_eq_true rfl) dL_law_201 (fun r' n2 h2 hQ => ?_)
  obtain ⟨rfl, rfl, m', c', rfl, q1, q2⟩ := hk2 r' n2 h2 hQ
  exact x_icmp_eq 939 dL_law_204 (by decide) (fun _ => fin d' m' c' q1 q2) (fun q => absurd rfl q)
set_option maxHeartbeats 2000000 in
theorem lc_today (hr : rel d m c) (hc : c + 14 < 2147483648) (hk : 5 * k + 5 ≤ Ls) (hL : Ls ≤ 2560) (hce : ce ≤ 600000) (hsl : sl ≤ 7302250) (fin : ∀ d' m' c', c' ≤ c + 14 → rel d' m' c' → xV (lF G nm b Ls xs) 939 [none, some (.ref 0), some (.ref MB), some (.int (nI (5 * k)))] [] NT (hp (dk d') m') ce sl) : xV (lF G nm b Ls xs) 209 [none, some (.ref 0), some (.ref MB), some (.int (nI (5 * k)))] [] NT (hp (dk d) m) ce sl := by
  refine x_aload1 dL_law_209 ?_
  refine l_arg (5 * k + 1) dL_law_210 dL_law_211 dL_law_212 dL_law_213 dL_law_214 (nI_add (5 * k) 1) (by omega) hL ?_
  obtain ⟨dd, P, hdd, hK, hk1⟩ := s_today G hr hc (xs (5 * k + 1))
  obtain ⟨f9, e9⟩ := dk_0 (d := d) (m := m)
  refine x_callV1i mvL_18 hK (Nat.le_of_ble_eq_true rfl) e9 (l_room (Nat.le_of_ble_eq_true rfl) hdd hce hsl) (Nat.le_of_ble_eq_true rfl) dL_law_215 (fun r n' h' hP => ?_)
  obtain ⟨rfl, d', rfl, dm, Q, hdm, hK2, hk2⟩ := hk1 r n' h' hP
  refine x_aload2 dL_law_218 ?_
  refine l_arg (5 * k + 1) dL_law_219 dL_law_220 dL_law_221 dL_law_222 dL_law_223 (nI_add (5 * k) 1) (by omega) hL ?_
  refine x_callV1i mvL_22 hK2 (Nat.le_of_ble_eq_true rfl) (hp_m0 (dk d') m) (l_room (Nat.le_of_ble_eq_true rfl) hdm hce hsl) (Nat.le_of_ble_eq_true rfl) dL_law_224 (fun r' n2 h2 hQ => ?_)
  obtain ⟨rfl, rfl, m', c', rfl, q1, q2⟩ := hk2 r' n2 h2 hQ
  exact x_icmp_eq 939 dL_law_227 (by decide) (fun _ => fin d' m' c' q1 q2) (fun q => absurd rfl q)
set_option maxHeartbeats 2000000 in
theorem lc_terms (hr : rel d m c) (hc : c + 14 < 2147483648) (hk : 5 * k + 5 ≤ Ls) (hL : Ls ≤ 2560) (hce : ce ≤ 600000) (hsl : sl ≤ 7302250) (fin : ∀ d' m' c', c' ≤ c + 14 → rel d' m' c' → xV (lF G nm b Ls xs) 939 [none, some (.ref 0), some (.ref MB), some (.int (nI (5 * k)))] [] NT (hp (dk d') m') ce sl) : xV (lF G nm b Ls xs) 232 [none, some (.ref 0), some (.ref MB), some (.int (nI (5 * k)))] [] NT (hp (dk d) m) ce sl := by
  refine x_aload1 dL_law_232 ?_
  refine l_arg (5 * k + 1) dL_law_233 dL_law_234 dL_law_235 dL_law_236 dL_law_237 (nI_add (5 * k) 1) (by omega) hL ?_
  refine l_arg (5 * k + 2) dL_law_238 dL_law_239 dL_law_240 dL_law_241 dL_law_242 (nI_add (5 * k) 2) (by omega) hL ?_
  obtain ⟨dd, P, hdd, hK, hk1⟩ := s_terms G hr hc (xs (5 * k + 1)) (xs (5 * k + 2))
  obtain ⟨f9, e9⟩ := dk_0 (d := d) (m := m)
  refine x_callV2i mvL_23 hK (Nat.le_of_ble_eq_true rfl) e9 (l_room (Nat.le_of_ble_eq_true rfl) hdd hce hsl) (Nat.le_of_ble_eq_true rfl) dL_law_243 (fun r n' h' hP => ?_)
  obtain ⟨rfl, d', rfl, dm, Q, hdm, hK2, hk2⟩ := hk1 r n' h' hP
  refine x_aload2 dL_law_246 ?_
  refine l_arg (5 * k + 1) dL_law_247 dL_law_248 dL_law_249 dL_law_250 dL_law_251 (nI_add (5 * k) 1) (by omega) hL ?_
  refine l_arg (5 * k + 2) dL_law_252 dL_law_253 dL_law_254 dL_law_255 dL_law_256 (nI_add (5 * k) 2) (by omega) hL ?_
  refine x_callV2i mvL_27 hK2 (Nat.le_of_ble_eq_true rfl) (hp_m0 (dk d') m) (l_room (Nat.le_of_ble_eq_true rfl) hdm hce hsl) (Nat.le_of_ble_eq_true rfl) dL_law_257 (fun r' n2 h2 hQ => ?_)
  obtain ⟨rfl, rfl, m', c', rfl, q1, q2⟩ := hk2 r' n2 h2 hQ
  exact x_icmp_eq 939 dL_law_260 (by decide) (fun _ => fin d' m' c' q1 q2) (fun q => absurd rfl q)
set_option maxHeartbeats 2000000 in
theorem lc_told (hr : rel d m c) (hc : c + 14 < 2147483648) (hk : 5 * k + 5 ≤ Ls) (hL : Ls ≤ 2560) (hce : ce ≤ 600000) (hsl : sl ≤ 7302250) (fin : ∀ d' m' c', c' ≤ c + 14 → rel d' m' c' → xV (lF G nm b Ls xs) 939 [none, some (.ref 0), some (.ref MB), some (.int (nI (5 * k)))] [] NT (hp (dk d') m') ce sl) : xV (lF G nm b Ls xs) 265 [none, some (.ref 0), some (.ref MB), some (.int (nI (5 * k)))] [] NT (hp (dk d) m) ce sl := by
  refine x_aload1 dL_law_265 ?_
  refine l_arg (5 * k + 1) dL_law_266 dL_law_267 dL_law_268 dL_law_269 dL_law_270 (nI_add (5 * k) 1) (by omega) hL ?_
  refine l_arg (5 * k + 2) dL_law_271 dL_law_272 dL_law_273 dL_law_274 dL_law_275 (nI_add (5 * k) 2) (by omega) hL ?_
  refine l_arg (5 * k + 3) dL_law_276 dL_law_277 dL_law_278 dL_law_279 dL_law_280 (nI_add (5 * k) 3) (by omega) hL ?_
  obtain ⟨dd, P, hdd, hK, hk1⟩ := s_told G hr (xs (5 * k + 1)) (xs (5 * k + 2)) (xs (5 * k + 3))
  obtain ⟨f9, e9⟩ := dk_0 (d := d) (m := m)
  refine x_callV3i mvL_28 hK (Nat.le_of_ble_eq_true rfl) e9 (l_room (Nat.le_of_ble_eq_true rfl) hdd hce hsl) (Nat.le_of_ble_eq_true rfl) dL_law_281 (fun r n' h' hP => ?_)
  obtain ⟨rfl, d', rfl, dm, Q, hdm, hK2, hk2⟩ := hk1 r n' h' hP
  refine x_aload2 dL_law_284 ?_
  refine l_arg (5 * k + 1) dL_law_285 dL_law_286 dL_law_287 dL_law_288 dL_law_289 (nI_add (5 * k) 1) (by omega) hL ?_
  refine l_arg (5 * k + 2) dL_law_290 dL_law_291 dL_law_292 dL_law_293 dL_law_294 (nI_add (5 * k) 2) (by omega) hL ?_
  refine l_arg (5 * k + 3) dL_law_295 dL_law_296 dL_law_297 dL_law_298 dL_law_299 (nI_add (5 * k) 3) (by omega) hL ?_
  refine x_callV3i mvL_32 hK2 (Nat.le_of_ble_eq_true rfl) (hp_m0 (dk d') m) (l_room (Nat.le_of_ble_eq_true rfl) hdm hce hsl) (Nat.le_of_ble_eq_true rfl) dL_law_300 (fun r' n2 h2 hQ => ?_)
  obtain ⟨rfl, rfl, m', c', rfl, q1, q2⟩ := hk2 r' n2 h2 hQ
  exact x_icmp_eq 939 dL_law_303 (by decide) (fun _ => fin d' m' c' q1 q2) (fun q => absurd rfl q)
set_option maxHeartbeats 2000000 in
theorem lc_fit (hr : rel d m c) (hc : c + 14 < 2147483648) (hk : 5 * k + 5 ≤ Ls) (hL : Ls ≤ 2560) (hce : ce ≤ 600000) (hsl : sl ≤ 7302250) (fin : ∀ d' m' c', c' ≤ c + 14 → rel d' m' c' → xV (lF G nm b Ls xs) 939 [none, some (.ref 0), some (.ref MB), some (.int (nI (5 * k)))] [] NT (hp (dk d') m') ce sl) : xV (lF G nm b Ls xs) 308 [none, some (.ref 0), some (.ref MB), some (.int (nI (5 * k)))] [] NT (hp (dk d) m) ce sl := by
  refine x_aload1 dL_law_308 ?_
  refine l_arg (5 * k + 1) dL_law_309 dL_law_310 dL_law_311 dL_law_312 dL_law_313 (nI_add (5 * k) 1) (by omega) hL ?_
  refine l_arg (5 * k + 2) dL_law_314 dL_law_315 dL_law_316 dL_law_317 dL_law_318 (nI_add (5 * k) 2) (by omega) hL ?_
  obtain ⟨dd, P, hdd, hK, hk1⟩ := s_fit G hr (xs (5 * k + 1)) (xs (5 * k + 2))
  obtain ⟨f9, e9⟩ := dk_0 (d := d) (m := m)
  refine x_callV2i mvL_33 hK (Nat.le_of_ble_eq_true rfl) e9 (l_room (Nat.le_of_ble_eq_true rfl) hdd hce hsl) (Nat.le_of_ble_eq_true rfl) dL_law_319 (fun r n' h' hP => ?_)
  obtain ⟨rfl, d', rfl, dm, Q, hdm, hK2, hk2⟩ := hk1 r n' h' hP
  refine x_aload2 dL_law_322 ?_
  refine l_arg (5 * k + 1) dL_law_323 dL_law_324 dL_law_325 dL_law_326 dL_law_327 (nI_add (5 * k) 1) (by omega) hL ?_
  refine l_arg (5 * k + 2) dL_law_328 dL_law_329 dL_law_330 dL_law_331 dL_law_332 (nI_add (5 * k) 2) (by omega) hL ?_
  refine x_callV2i mvL_36 hK2 (Nat.le_of_ble_eq_true rfl) (hp_m0 (dk d') m) (l_room (Nat.le_of_ble_eq_true rfl) hdm hce hsl) (Nat.le_of_ble_eq_true rfl) dL_law_333 (fun r' n2 h2 hQ => ?_)
  obtain ⟨rfl, rfl, m', c', rfl, q1, q2⟩ := hk2 r' n2 h2 hQ
  exact x_icmp_eq 939 dL_law_336 (by decide) (fun _ => fin d' m' c' q1 q2) (fun q => absurd rfl q)
set_option maxHeartbeats 2000000 in
theorem lc_best (hr : rel d m c) (hc : c + 14 < 2147483648) (hk : 5 * k + 5 ≤ Ls) (hL : Ls ≤ 2560) (hce : ce ≤ 600000) (hsl : sl ≤ 7302250) (fin : ∀ d' m' c', c' ≤ c + 14 → rel d' m' c' → xV (lF G nm b Ls xs) 939 [none, some (.ref 0), some (.ref MB), some (.int (nI (5 * k)))] [] NT (hp (dk d') m') ce sl) : xV (lF G nm b Ls xs) 341 [none, some (.ref 0), some (.ref MB), some (.int (nI (5 * k)))] [] NT (hp (dk d) m) ce sl := by
  refine x_aload1 dL_law_341 ?_
  obtain ⟨dd, P, hdd, hK, hk1⟩ := s_best G hr 
  obtain ⟨f9, e9⟩ := dk_0 (d := d) (m := m)
  refine x_callV0i mvL_37 hK (Nat.le_of_ble_eq_true rfl) e9 (l_room (Nat.le_of_ble_eq_true rfl) hdd hce hsl) (Nat.le_of_ble_eq_true rfl) dL_law_342 (fun r n' h' hP => ?_)
  obtain ⟨rfl, d', rfl, dm, Q, hdm, hK2, hk2⟩ := hk1 r n' h' hP
  refine x_aload2 dL_law_345 ?_
  refine x_callV0i mvL_41 hK2 (Nat.le_of_ble_eq_true rfl) (hp_m0 (dk d') m) (l_room (Nat.le_of_ble_eq_true rfl) hdm hce hsl) (Nat.le_of_ble_eq_true rfl) dL_law_346 (fun r' n2 h2 hQ => ?_)
  obtain ⟨rfl, rfl, m', c', rfl, q1, q2⟩ := hk2 r' n2 h2 hQ
  exact x_icmp_eq 939 dL_law_349 (by decide) (fun _ => fin d' m' c' q1 q2) (fun q => absurd rfl q)
set_option maxHeartbeats 2000000 in
theorem lc_with (hr : rel d m c) (hc : c + 14 < 2147483648) (hk : 5 * k + 5 ≤ Ls) (hL : Ls ≤ 2560) (hce : ce ≤ 600000) (hsl : sl ≤ 7302250) (fin : ∀ d' m' c', c' ≤ c + 14 → rel d' m' c' → xV (lF G nm b Ls xs) 939 [none, some (.ref 0), some (.ref MB), some (.int (nI (5 * k)))] [] NT (hp (dk d') m') ce sl) : xV (lF G nm b Ls xs) 354 [none, some (.ref 0), some (.ref MB), some (.int (nI (5 * k)))] [] NT (hp (dk d) m) ce sl := by
  refine x_aload1 dL_law_354 ?_
  refine l_arg (5 * k + 1) dL_law_355 dL_law_356 dL_law_357 dL_law_358 dL_law_359 (nI_add (5 * k) 1) (by omega) hL ?_
  obtain ⟨dd, P, hdd, hK, hk1⟩ := s_with G hr (xs (5 * k + 1))
  obtain ⟨f9, e9⟩ := dk_0 (d := d) (m := m)
  refine x_callV1i mvL_42 hK (Nat.le_of_ble_eq_true rfl) e9 (l_room (Nat.le_of_ble_eq_true rfl) hdd hce hsl) (Nat.le_of_ble_eq_true rfl) dL_law_360 (fun r n' h' hP => ?_)
  obtain ⟨rfl, d', rfl, dm, Q, hdm, hK2, hk2⟩ := hk1 r n' h' hP
  refine x_aload2 dL_law_363 ?_
  refine l_arg (5 * k + 1) dL_law_364 dL_law_365 dL_law_366 dL_law_367 dL_law_368 (nI_add (5 * k) 1) (by omega) hL ?_
  refine x_callV1i mvL_45 hK2 (Nat.le_of_ble_eq_true rfl) (hp_m0 (dk d') m) (l_room (Nat.le_of_ble_eq_true rfl) hdm hce hsl) (Nat.le_of_ble_eq_true rfl) dL_law_369 (fun r' n2 h2 hQ => ?_)
  obtain ⟨rfl, rfl, m', c', rfl, q1, q2⟩ := hk2 r' n2 h2 hQ
  exact x_icmp_eq 939 dL_law_372 (by decide) (fun _ => fin d' m' c' q1 q2) (fun q => absurd rfl q)
set_option maxHeartbeats 2000000 in
theorem lc_rival (hr : rel d m c) (hc : c + 14 < 2147483648) (hk : 5 * k + 5 ≤ Ls) (hL : Ls ≤ 2560) (hce : ce ≤ 600000) (hsl : sl ≤ 7302250) (fin : ∀ d' m' c', c' ≤ c + 14 → rel d' m' c' → xV (lF G nm b Ls xs) 939 [none, some (.ref 0), some (.ref MB), some (.int (nI (5 * k)))] [] NT (hp (dk d') m') ce sl) : xV (lF G nm b Ls xs) 377 [none, some (.ref 0), some (.ref MB), some (.int (nI (5 * k)))] [] NT (hp (dk d) m) ce sl := by
  refine x_aload1 dL_law_377 ?_
  refine l_arg (5 * k + 1) dL_law_378 dL_law_379 dL_law_380 dL_law_381 dL_law_382 (nI_add (5 * k) 1) (by omega) hL ?_
  obtain ⟨dd, P, hdd, hK, hk1⟩ := s_rival G hr (xs (5 * k + 1))
  obtain ⟨f9, e9⟩ := dk_0 (d := d) (m := m)
  refine x_callV1i mvL_46 hK (Nat.le_of_ble_eq_true rfl) e9 (l_room (Nat.le_of_ble_eq_true rfl) hdd hce hsl) (Nat.le_of_ble_eq_true rfl) dL_law_383 (fun r n' h' hP => ?_)
  obtain ⟨rfl, d', rfl, dm, Q, hdm, hK2, hk2⟩ := hk1 r n' h' hP
  refine x_aload2 dL_law_386 ?_
  refine l_arg (5 * k + 1) dL_law_387 dL_law_388 dL_law_389 dL_law_390 dL_law_391 (nI_add (5 * k) 1) (by omega) hL ?_
  refine x_callV1i mvL_49 hK2 (Nat.le_of_ble_eq_true rfl) (hp_m0 (dk d') m) (l_room (Nat.le_of_ble_eq_true rfl) hdm hce hsl) (Nat.le_of_ble_eq_true rfl) dL_law_392 (fun r' n2 h2 hQ => ?_)
  obtain ⟨rfl, rfl, m', c', rfl, q1, q2⟩ := hk2 r' n2 h2 hQ
  exact x_icmp_eq 939 dL_law_395 (by decide) (fun _ => fin d' m' c' q1 q2) (fun q => absurd rfl q)
set_option maxHeartbeats 2000000 in
theorem lc_pair (hr : rel d m c) (hc : c + 14 < 2147483648) (hk : 5 * k + 5 ≤ Ls) (hL : Ls ≤ 2560) (hce : ce ≤ 600000) (hsl : sl ≤ 7302250) (fin : ∀ d' m' c', c' ≤ c + 14 → rel d' m' c' → xV (lF G nm b Ls xs) 939 [none, some (.ref 0), some (.ref MB), some (.int (nI (5 * k)))] [] NT (hp (dk d') m') ce sl) : xV (lF G nm b Ls xs) 400 [none, some (.ref 0), some (.ref MB), some (.int (nI (5 * k)))] [] NT (hp (dk d) m) ce sl := by
  refine x_aload1 dL_law_400 ?_
  refine l_arg (5 * k + 1) dL_law_401 dL_law_402 dL_law_403 dL_law_404 dL_law_405 (nI_add (5 * k) 1) (by omega) hL ?_
  obtain ⟨dd, P, hdd, hK, hk1⟩ := s_pair G hr hc (xs (5 * k + 1))
  obtain ⟨f9, e9⟩ := dk_0 (d := d) (m := m)
  refine x_callV1i mvL_50 hK (Nat.le_of_ble_eq_true rfl) e9 (l_room (Nat.le_of_ble_eq_true rfl) hdd hce hsl) (Nat.le_of_ble_eq_true rfl) dL_law_406 (fun r n' h' hP => ?_)
  obtain ⟨rfl, d', rfl, dm, Q, hdm, hK2, hk2⟩ := hk1 r n' h' hP
  refine x_aload2 dL_law_409 ?_
  refine l_arg (5 * k + 1) dL_law_410 dL_law_411 dL_law_412 dL_law_413 dL_law_414 (nI_add (5 * k) 1) (by omega) hL ?_
  refine x_callV1i mvL_53 hK2 (Nat.le_of_ble_eq_true rfl) (hp_m0 (dk d') m) (l_room (Nat.le_of_ble_eq_true rfl) hdm hce hsl) (Nat.le_of_ble_eq_true rfl) dL_law_415 (fun r' n2 h2 hQ => ?_)
  obtain ⟨rfl, rfl, m', c', rfl, q1, q2⟩ := hk2 r' n2 h2 hQ
  exact x_icmp_eq 939 dL_law_418 (by decide) (fun _ => fin d' m' c' q1 q2) (fun q => absurd rfl q)
set_option maxHeartbeats 2000000 in
theorem lc_sets (hr : rel d m c) (hc : c + 14 < 2147483648) (hk : 5 * k + 5 ≤ Ls) (hL : Ls ≤ 2560) (hce : ce ≤ 600000) (hsl : sl ≤ 7302250) (fin : ∀ d' m' c', c' ≤ c + 14 → rel d' m' c' → xV (lF G nm b Ls xs) 939 [none, some (.ref 0), some (.ref MB), some (.int (nI (5 * k)))] [] NT (hp (dk d') m') ce sl) : xV (lF G nm b Ls xs) 423 [none, some (.ref 0), some (.ref MB), some (.int (nI (5 * k)))] [] NT (hp (dk d) m) ce sl := by
  refine x_aload1 dL_law_423 ?_
  refine l_arg (5 * k + 1) dL_law_424 dL_law_425 dL_law_426 dL_law_427 dL_law_428 (nI_add (5 * k) 1) (by omega) hL ?_
  refine l_arg (5 * k + 2) dL_law_429 dL_law_430 dL_law_431 dL_law_432 dL_law_433 (nI_add (5 * k) 2) (by omega) hL ?_
  refine l_arg (5 * k + 3) dL_law_434 dL_law_435 dL_law_436 dL_law_437 dL_law_438 (nI_add (5 * k) 3) (by omega) hL ?_
  refine l_arg (5 * k + 4) dL_law_439 dL_law_440 dL_law_441 dL_law_442 dL_law_443 (nI_add (5 * k) 4) (by omega) hL ?_
  obtain ⟨dd, P, hdd, hK, hk1⟩ := s_sets G hr (xs (5 * k + 1)) (xs (5 * k + 2)) (xs (5 * k + 3)) (xs (5 * k + 4))
  obtain ⟨f9, e9⟩ := dk_0 (d := d) (m := m)
  refine x_callV4i mvL_54 hK (Nat.le_of_ble_eq_true rfl) e9 (l_room (Nat.le_of_ble_eq_true rfl) hdd hce hsl) (Nat.le_of_ble_eq_true rfl) dL_law_444 (fun r n' h' hP => ?_)
  obtain ⟨rfl, d', rfl, dm, Q, hdm, hK2, hk2⟩ := hk1 r n' h' hP
  refine x_aload2 dL_law_447 ?_
  refine l_arg (5 * k + 1) dL_law_448 dL_law_449 dL_law_450 dL_law_451 dL_law_452 (nI_add (5 * k) 1) (by omega) hL ?_
  refine l_arg (5 * k + 2) dL_law_453 dL_law_454 dL_law_455 dL_law_456 dL_law_457 (nI_add (5 * k) 2) (by omega) hL ?_
  refine l_arg (5 * k + 3) dL_law_458 dL_law_459 dL_law_460 dL_law_461 dL_law_462 (nI_add (5 * k) 3) (by omega) hL ?_
  refine l_arg (5 * k + 4) dL_law_463 dL_law_464 dL_law_465 dL_law_466 dL_law_467 (nI_add (5 * k) 4) (by omega) hL ?_
  refine x_callV4i mvL_57 hK2 (Nat.le_of_ble_eq_true rfl) (hp_m0 (dk d') m) (l_room (Nat.le_of_ble_eq_true rfl) hdm hce hsl) (Nat.le_of_ble_eq_true rfl) dL_law_468 (fun r' n2 h2 hQ => ?_)
  obtain ⟨rfl, rfl, m', c', rfl, q1, q2⟩ := hk2 r' n2 h2 hQ
  exact x_icmp_eq 939 dL_law_471 (by decide) (fun _ => fin d' m' c' q1 q2) (fun q => absurd rfl q)
set_option maxHeartbeats 2000000 in
theorem lc_size (hr : rel d m c) (hc : c + 14 < 2147483648) (hk : 5 * k + 5 ≤ Ls) (hL : Ls ≤ 2560) (hce : ce ≤ 600000) (hsl : sl ≤ 7302250) (fin : ∀ d' m' c', c' ≤ c + 14 → rel d' m' c' → xV (lF G nm b Ls xs) 939 [none, some (.ref 0), some (.ref MB), some (.int (nI (5 * k)))] [] NT (hp (dk d') m') ce sl) : xV (lF G nm b Ls xs) 476 [none, some (.ref 0), some (.ref MB), some (.int (nI (5 * k)))] [] NT (hp (dk d) m) ce sl := by
  refine x_aload1 dL_law_476 ?_
  refine l_arg (5 * k + 1) dL_law_477 dL_law_478 dL_law_479 dL_law_480 dL_law_481 (nI_add (5 * k) 1) (by omega) hL ?_
  obtain ⟨dd, P, hdd, hK, hk1⟩ := s_size G hr (xs (5 * k + 1))
  obtain ⟨f9, e9⟩ := dk_0 (d := d) (m := m)
  refine x_callV1i mvL_58 hK (Nat.le_of_ble_eq_true rfl) e9 (l_room (Nat.le_of_ble_eq_true rfl) hdd hce hsl) (Nat.le_of_ble_eq_true rfl) dL_law_482 (fun r n' h' hP => ?_)
  obtain ⟨rfl, d', rfl, dm, Q, hdm, hK2, hk2⟩ := hk1 r n' h' hP
  refine x_aload2 dL_law_485 ?_
  refine l_arg (5 * k + 1) dL_law_486 dL_law_487 dL_law_488 dL_law_489 dL_law_490 (nI_add (5 * k) 1) (by omega) hL ?_
  refine x_callV1i mvL_61 hK2 (Nat.le_of_ble_eq_true rfl) (hp_m0 (dk d') m) (l_room (Nat.le_of_ble_eq_true rfl) hdm hce hsl) (Nat.le_of_ble_eq_true rfl) dL_law_491 (fun r' n2 h2 hQ => ?_)
  obtain ⟨rfl, rfl, m', c', rfl, q1, q2⟩ := hk2 r' n2 h2 hQ
  exact x_icmp_eq 939 dL_law_494 (by decide) (fun _ => fin d' m' c' q1 q2) (fun q => absurd rfl q)
set_option maxHeartbeats 2000000 in
theorem lc_in (hr : rel d m c) (hc : c + 14 < 2147483648) (hk : 5 * k + 5 ≤ Ls) (hL : Ls ≤ 2560) (hce : ce ≤ 600000) (hsl : sl ≤ 7302250) (fin : ∀ d' m' c', c' ≤ c + 14 → rel d' m' c' → xV (lF G nm b Ls xs) 939 [none, some (.ref 0), some (.ref MB), some (.int (nI (5 * k)))] [] NT (hp (dk d') m') ce sl) : xV (lF G nm b Ls xs) 499 [none, some (.ref 0), some (.ref MB), some (.int (nI (5 * k)))] [] NT (hp (dk d) m) ce sl := by
  refine x_aload1 dL_law_499 ?_
  refine l_arg (5 * k + 1) dL_law_500 dL_law_501 dL_law_502 dL_law_503 dL_law_504 (nI_add (5 * k) 1) (by omega) hL ?_
  refine l_arg (5 * k + 2) dL_law_505 dL_law_506 dL_law_507 dL_law_508 dL_law_509 (nI_add (5 * k) 2) (by omega) hL ?_
  obtain ⟨dd, P, hdd, hK, hk1⟩ := s_in G hr (xs (5 * k + 1)) (xs (5 * k + 2))
  obtain ⟨f9, e9⟩ := dk_0 (d := d) (m := m)
  refine x_callV2i mvL_62 hK (Nat.le_of_ble_eq_true rfl) e9 (l_room (Nat.le_of_ble_eq_true rfl) hdd hce hsl) (Nat.le_of_ble_eq_true rfl) dL_law_510 (fun r n' h' hP => ?_)
  obtain ⟨rfl, d', rfl, dm, Q, hdm, hK2, hk2⟩ := hk1 r n' h' hP
  refine x_aload2 dL_law_513 ?_
  refine l_arg (5 * k + 1) dL_law_514 dL_law_515 dL_law_516 dL_law_517 dL_law_518 (nI_add (5 * k) 1) (by omega) hL ?_
  refine l_arg (5 * k + 2) dL_law_519 dL_law_520 dL_law_521 dL_law_522 dL_law_523 (nI_add (5 * k) 2) (by omega) hL ?_
  refine x_callV2i mvL_65 hK2 (Nat.le_of_ble_eq_true rfl) (hp_m0 (dk d') m) (l_room (Nat.le_of_ble_eq_true rfl) hdm hce hsl) (Nat.le_of_ble_eq_true rfl) dL_law_524 (fun r' n2 h2 hQ => ?_)
  obtain ⟨rfl, rfl, m', c', rfl, q1, q2⟩ := hk2 r' n2 h2 hQ
  exact x_icmp_eq 939 dL_law_527 (by decide) (fun _ => fin d' m' c' q1 q2) (fun q => absurd rfl q)
set_option maxHeartbeats 2000000 in
theorem lc_set (hr : rel d m c) (hc : c + 14 < 2147483648) (hk : 5 * k + 5 ≤ Ls) (hL : Ls ≤ 2560) (hce : ce ≤ 600000) (hsl : sl ≤ 7302250) (fin : ∀ d' m' c', c' ≤ c + 14 → rel d' m' c' → xV (lF G nm b Ls xs) 939 [none, some (.ref 0), some (.ref MB), some (.int (nI (5 * k)))] [] NT (hp (dk d') m') ce sl) : xV (lF G nm b Ls xs) 532 [none, some (.ref 0), some (.ref MB), some (.int (nI (5 * k)))] [] NT (hp (dk d) m) ce sl := by
  refine x_aload1 dL_law_532 ?_
  refine l_arg (5 * k + 1) dL_law_533 dL_law_534 dL_law_535 dL_law_536 dL_law_537 (nI_add (5 * k) 1) (by omega) hL ?_
  obtain ⟨dd, P, hdd, hK, hk1⟩ := s_set G hr hc (xs (5 * k + 1))
  obtain ⟨f9, e9⟩ := dk_0 (d := d) (m := m)
  refine x_callV1i mvL_66 hK (Nat.le_of_ble_eq_true rfl) e9 (l_room (Nat.le_of_ble_eq_true rfl) hdd hce hsl) (Nat.le_of_ble_eq_true rfl) dL_law_538 (fun r n' h' hP => ?_)
  obtain ⟨rfl, d', rfl, dm, Q, hdm, hK2, hk2⟩ := hk1 r n' h' hP
  refine x_aload2 dL_law_541 ?_
  refine l_arg (5 * k + 1) dL_law_542 dL_law_543 dL_law_544 dL_law_545 dL_law_546 (nI_add (5 * k) 1) (by omega) hL ?_
  refine x_callV1i mvL_69 hK2 (Nat.le_of_ble_eq_true rfl) (hp_m0 (dk d') m) (l_room (Nat.le_of_ble_eq_true rfl) hdm hce hsl) (Nat.le_of_ble_eq_true rfl) dL_law_547 (fun r' n2 h2 hQ => ?_)
  obtain ⟨rfl, rfl, m', c', rfl, q1, q2⟩ := hk2 r' n2 h2 hQ
  exact x_icmp_eq 939 dL_law_550 (by decide) (fun _ => fin d' m' c' q1 q2) (fun q => absurd rfl q)
set_option maxHeartbeats 2000000 in
theorem lc_hand (hr : rel d m c) (hc : c + 14 < 2147483648) (hk : 5 * k + 5 ≤ Ls) (hL : Ls ≤ 2560) (hce : ce ≤ 600000) (hsl : sl ≤ 7302250) (fin : ∀ d' m' c', c' ≤ c + 14 → rel d' m' c' → xV (lF G nm b Ls xs) 939 [none, some (.ref 0), some (.ref MB), some (.int (nI (5 * k)))] [] NT (hp (dk d') m') ce sl) : xV (lF G nm b Ls xs) 555 [none, some (.ref 0), some (.ref MB), some (.int (nI (5 * k)))] [] NT (hp (dk d) m) ce sl := by
  refine x_aload1 dL_law_555 ?_
  refine l_arg (5 * k + 1) dL_law_556 dL_law_557 dL_law_558 dL_law_559 dL_law_560 (nI_add (5 * k) 1) (by omega) hL ?_
  refine l_arg (5 * k + 2) dL_law_561 dL_law_562 dL_law_563 dL_law_564 dL_law_565 (nI_add (5 * k) 2) (by omega) hL ?_
  obtain ⟨dd, P, hdd, hK, hk1⟩ := s_hand G hr hc (xs (5 * k + 1)) (xs (5 * k + 2))
  obtain ⟨f9, e9⟩ := dk_0 (d := d) (m := m)
  refine x_callV2i mvL_70 hK (Nat.le_of_ble_eq_true rfl) e9 (l_room (Nat.le_of_ble_eq_true rfl) hdd hce hsl) (Nat.le_of_ble_eq_true rfl) dL_law_566 (fun r n' h' hP => ?_)
  obtain ⟨rfl, d', rfl, dm, Q, hdm, hK2, hk2⟩ := hk1 r n' h' hP
  refine x_aload2 dL_law_569 ?_
  refine l_arg (5 * k + 1) dL_law_570 dL_law_571 dL_law_572 dL_law_573 dL_law_574 (nI_add (5 * k) 1) (by omega) hL ?_
  refine l_arg (5 * k + 2) dL_law_575 dL_law_576 dL_law_577 dL_law_578 dL_law_579 (nI_add (5 * k) 2) (by omega) hL ?_
  refine x_callV2i mvL_73 hK2 (Nat.le_of_ble_eq_true rfl) (hp_m0 (dk d') m) (l_room (Nat.le_of_ble_eq_true rfl) hdm hce hsl) (Nat.le_of_ble_eq_true rfl) dL_law_580 (fun r' n2 h2 hQ => ?_)
  obtain ⟨rfl, rfl, m', c', rfl, q1, q2⟩ := hk2 r' n2 h2 hQ
  exact x_icmp_eq 939 dL_law_583 (by decide) (fun _ => fin d' m' c' q1 q2) (fun q => absurd rfl q)
set_option maxHeartbeats 2000000 in
theorem lc_join (hr : rel d m c) (hc : c + 14 < 2147483648) (hk : 5 * k + 5 ≤ Ls) (hL : Ls ≤ 2560) (hce : ce ≤ 600000) (hsl : sl ≤ 7302250) (fin : ∀ d' m' c', c' ≤ c + 14 → rel d' m' c' → xV (lF G nm b Ls xs) 939 [none, some (.ref 0), some (.ref MB), some (.int (nI (5 * k)))] [] NT (hp (dk d') m') ce sl) : xV (lF G nm b Ls xs) 588 [none, some (.ref 0), some (.ref MB), some (.int (nI (5 * k)))] [] NT (hp (dk d) m) ce sl := by
  refine x_aload1 dL_law_588 ?_
  refine l_arg (5 * k + 1) dL_law_589 dL_law_590 dL_law_591 dL_law_592 dL_law_593 (nI_add (5 * k) 1) (by omega) hL ?_
  refine l_arg (5 * k + 2) dL_law_594 dL_law_595 dL_law_596 dL_law_597 dL_law_598 (nI_add (5 * k) 2) (by omega) hL ?_
  refine l_arg (5 * k + 3) dL_law_599 dL_law_600 dL_law_601 dL_law_602 dL_law_603 (nI_add (5 * k) 3) (by omega) hL ?_
  obtain ⟨dd, P, hdd, hK, hk1⟩ := s_join G hr hc (xs (5 * k + 1)) (xs (5 * k + 2)) (xs (5 * k + 3))
  obtain ⟨f9, e9⟩ := dk_0 (d := d) (m := m)
  refine x_callV3i mvL_74 hK (Nat.le_of_ble_eq_true rfl) e9 (l_room (Nat.le_of_ble_eq_true rfl) hdd hce hsl) (Nat.le_of_ble_eq_true rfl) dL_law_604 (fun r n' h' hP => ?_)
  obtain ⟨rfl, d', rfl, dm, Q, hdm, hK2, hk2⟩ := hk1 r n' h' hP
  refine x_aload2 dL_law_607 ?_
  refine l_arg (5 * k + 1) dL_law_608 dL_law_609 dL_law_610 dL_law_611 dL_law_612 (nI_add (5 * k) 1) (by omega) hL ?_
  refine l_arg (5 * k + 2) dL_law_613 dL_law_614 dL_law_615 dL_law_616 dL_law_617 (nI_add (5 * k) 2) (by omega) hL ?_
  refine l_arg (5 * k + 3) dL_law_618 dL_law_619 dL_law_620 dL_law_621 dL_law_622 (nI_add (5 * k) 3) (by omega) hL ?_
  refine x_callV3i mvL_77 hK2 (Nat.le_of_ble_eq_true rfl) (hp_m0 (dk d') m) (l_room (Nat.le_of_ble_eq_true rfl) hdm hce hsl) (Nat.le_of_ble_eq_true rfl) dL_law_623 (fun r' n2 h2 hQ => ?_)
  obtain ⟨rfl, rfl, m', c', rfl, q1, q2⟩ := hk2 r' n2 h2 hQ
  exact x_icmp_eq 939 dL_law_626 (by decide) (fun _ => fin d' m' c' q1 q2) (fun q => absurd rfl q)
set_option maxHeartbeats 2000000 in
theorem lc_part (hr : rel d m c) (hc : c + 14 < 2147483648) (hk : 5 * k + 5 ≤ Ls) (hL : Ls ≤ 2560) (hce : ce ≤ 600000) (hsl : sl ≤ 7302250) (fin : ∀ d' m' c', c' ≤ c + 14 → rel d' m' c' → xV (lF G nm b Ls xs) 939 [none, some (.ref 0), some (.ref MB), some (.int (nI (5 * k)))] [] NT (hp (dk d') m') ce sl) : xV (lF G nm b Ls xs) 631 [none, some (.ref 0), some (.ref MB), some (.int (nI (5 * k)))] [] NT (hp (dk d) m) ce sl := by
  refine x_aload1 dL_law_631 ?_
  refine l_arg (5 * k + 1) dL_law_632 dL_law_633 dL_law_634 dL_law_635 dL_law_636 (nI_add (5 * k) 1) (by omega) hL ?_
  obtain ⟨dd, P, hdd, hK, hk1⟩ := s_part G hr hc (xs (5 * k + 1))
  obtain ⟨f9, e9⟩ := dk_0 (d := d) (m := m)
  refine x_callV1i mvL_78 hK (Nat.le_of_ble_eq_true rfl) e9 (l_room (Nat.le_of_ble_eq_true rfl) hdd hce hsl) (Nat.le_of_ble_eq_true rfl) dL_law_637 (fun r n' h' hP => ?_)
  obtain ⟨rfl, d', rfl, dm, Q, hdm, hK2, hk2⟩ := hk1 r n' h' hP
  refine x_aload2 dL_law_640 ?_
  refine l_arg (5 * k + 1) dL_law_641 dL_law_642 dL_law_643 dL_law_644 dL_law_645 (nI_add (5 * k) 1) (by omega) hL ?_
  refine x_callV1i mvL_81 hK2 (Nat.le_of_ble_eq_true rfl) (hp_m0 (dk d') m) (l_room (Nat.le_of_ble_eq_true rfl) hdm hce hsl) (Nat.le_of_ble_eq_true rfl) dL_law_646 (fun r' n2 h2 hQ => ?_)
  obtain ⟨rfl, rfl, m', c', rfl, q1, q2⟩ := hk2 r' n2 h2 hQ
  exact x_icmp_eq 939 dL_law_649 (by decide) (fun _ => fin d' m' c' q1 q2) (fun q => absurd rfl q)
set_option maxHeartbeats 2000000 in
theorem lc_lock (hr : rel d m c) (hc : c + 14 < 2147483648) (hk : 5 * k + 5 ≤ Ls) (hL : Ls ≤ 2560) (hce : ce ≤ 600000) (hsl : sl ≤ 7302250) (fin : ∀ d' m' c', c' ≤ c + 14 → rel d' m' c' → xV (lF G nm b Ls xs) 939 [none, some (.ref 0), some (.ref MB), some (.int (nI (5 * k)))] [] NT (hp (dk d') m') ce sl) : xV (lF G nm b Ls xs) 654 [none, some (.ref 0), some (.ref MB), some (.int (nI (5 * k)))] [] NT (hp (dk d) m) ce sl := by
  refine x_aload1 dL_law_654 ?_
  refine l_arg (5 * k + 1) dL_law_655 dL_law_656 dL_law_657 dL_law_658 dL_law_659 (nI_add (5 * k) 1) (by omega) hL ?_
  refine l_arg (5 * k + 2) dL_law_660 dL_law_661 dL_law_662 dL_law_663 dL_law_664 (nI_add (5 * k) 2) (by omega) hL ?_
  obtain ⟨dd, P, hdd, hK, hk1⟩ := s_lock G hr hc (xs (5 * k + 1)) (xs (5 * k + 2))
  obtain ⟨f9, e9⟩ := dk_0 (d := d) (m := m)
  refine x_callV2i mvL_82 hK (Nat.le_of_ble_eq_true rfl) e9 (l_room (Nat.le_of_ble_eq_true rfl) hdd hce hsl) (Nat.le_of_ble_eq_true rfl) dL_law_665 (fun r n' h' hP => ?_)
  obtain ⟨rfl, d', rfl, dm, Q, hdm, hK2, hk2⟩ := hk1 r n' h' hP
  refine x_aload2 dL_law_668 ?_
  refine l_arg (5 * k + 1) dL_law_669 dL_law_670 dL_law_671 dL_law_672 dL_law_673 (nI_add (5 * k) 1) (by omega) hL ?_
  refine l_arg (5 * k + 2) dL_law_674 dL_law_675 dL_law_676 dL_law_677 dL_law_678 (nI_add (5 * k) 2) (by omega) hL ?_
  refine x_callV2i mvL_85 hK2 (Nat.le_of_ble_eq_true rfl) (hp_m0 (dk d') m) (l_room (Nat.le_of_ble_eq_true rfl) hdm hce hsl) (Nat.le_of_ble_eq_true rfl) dL_law_679 (fun r' n2 h2 hQ => ?_)
  obtain ⟨rfl, rfl, m', c', rfl, q1, q2⟩ := hk2 r' n2 h2 hQ
  exact x_icmp_eq 939 dL_law_682 (by decide) (fun _ => fin d' m' c' q1 q2) (fun q => absurd rfl q)
set_option maxHeartbeats 2000000 in
theorem lc_group (hr : rel d m c) (hc : c + 14 < 2147483648) (hk : 5 * k + 5 ≤ Ls) (hL : Ls ≤ 2560) (hce : ce ≤ 600000) (hsl : sl ≤ 7302250) (fin : ∀ d' m' c', c' ≤ c + 14 → rel d' m' c' → xV (lF G nm b Ls xs) 939 [none, some (.ref 0), some (.ref MB), some (.int (nI (5 * k)))] [] NT (hp (dk d') m') ce sl) : xV (lF G nm b Ls xs) 687 [none, some (.ref 0), some (.ref MB), some (.int (nI (5 * k)))] [] NT (hp (dk d) m) ce sl := by
  refine x_aload1 dL_law_687 ?_
  refine l_arg (5 * k + 1) dL_law_688 dL_law_689 dL_law_690 dL_law_691 dL_law_692 (nI_add (5 * k) 1) (by omega) hL ?_
  refine l_arg (5 * k + 2) dL_law_693 dL_law_694 dL_law_695 dL_law_696 dL_law_697 (nI_add (5 * k) 2) (by omega) hL ?_
  obtain ⟨dd, P, hdd, hK, hk1⟩ := s_group G hr (xs (5 * k + 1)) (xs (5 * k + 2))
  obtain ⟨f9, e9⟩ := dk_0 (d := d) (m := m)
  refine x_callV2i mvL_86 hK (Nat.le_of_ble_eq_true rfl) e9 (l_room (Nat.le_of_ble_eq_true rfl) hdd hce hsl) (Nat.le_of_ble_eq_true rfl) dL_law_698 (fun r n' h' hP => ?_)
  obtain ⟨rfl, d', rfl, dm, Q, hdm, hK2, hk2⟩ := hk1 r n' h' hP
  refine x_aload2 dL_law_701 ?_
  refine l_arg (5 * k + 1) dL_law_702 dL_law_703 dL_law_704 dL_law_705 dL_law_706 (nI_add (5 * k) 1) (by omega) hL ?_
  refine l_arg (5 * k + 2) dL_law_707 dL_law_708 dL_law_709 dL_law_710 dL_law_711 (nI_add (5 * k) 2) (by omega) hL ?_
  refine x_callV2i mvL_89 hK2 (Nat.le_of_ble_eq_true rfl) (hp_m0 (dk d') m) (l_room (Nat.le_of_ble_eq_true rfl) hdm hce hsl) (Nat.le_of_ble_eq_true rfl) dL_law_712 (fun r' n2 h2 hQ => ?_)
  obtain ⟨rfl, rfl, m', c', rfl, q1, q2⟩ := hk2 r' n2 h2 hQ
  exact x_icmp_eq 939 dL_law_715 (by decide) (fun _ => fin d' m' c' q1 q2) (fun q => absurd rfl q)
set_option maxHeartbeats 2000000 in
theorem lc_breaks (hr : rel d m c) (hc : c + 14 < 2147483648) (hk : 5 * k + 5 ≤ Ls) (hL : Ls ≤ 2560) (hce : ce ≤ 600000) (hsl : sl ≤ 7302250) (fin : ∀ d' m' c', c' ≤ c + 14 → rel d' m' c' → xV (lF G nm b Ls xs) 939 [none, some (.ref 0), some (.ref MB), some (.int (nI (5 * k)))] [] NT (hp (dk d') m') ce sl) : xV (lF G nm b Ls xs) 720 [none, some (.ref 0), some (.ref MB), some (.int (nI (5 * k)))] [] NT (hp (dk d) m) ce sl := by
  refine x_aload1 dL_law_720 ?_
  refine l_arg (5 * k + 1) dL_law_721 dL_law_722 dL_law_723 dL_law_724 dL_law_725 (nI_add (5 * k) 1) (by omega) hL ?_
  refine l_arg (5 * k + 2) dL_law_726 dL_law_727 dL_law_728 dL_law_729 dL_law_730 (nI_add (5 * k) 2) (by omega) hL ?_
  obtain ⟨dd, P, hdd, hK, hk1⟩ := s_breaks G hr (xs (5 * k + 1)) (xs (5 * k + 2))
  obtain ⟨f9, e9⟩ := dk_0 (d := d) (m := m)
  refine x_callV2i mvL_90 hK (Nat.le_of_ble_eq_true rfl) e9 (l_room (Nat.le_of_ble_eq_true rfl) hdd hce hsl) (Nat.le_of_ble_eq_true rfl) dL_law_731 (fun r n' h' hP => ?_)
  obtain ⟨rfl, d', rfl, dm, Q, hdm, hK2, hk2⟩ := hk1 r n' h' hP
  refine x_aload2 dL_law_734 ?_
  refine l_arg (5 * k + 1) dL_law_735 dL_law_736 dL_law_737 dL_law_738 dL_law_739 (nI_add (5 * k) 1) (by omega) hL ?_
  refine l_arg (5 * k + 2) dL_law_740 dL_law_741 dL_law_742 dL_law_743 dL_law_744 (nI_add (5 * k) 2) (by omega) hL ?_
  refine x_callV2i mvL_93 hK2 (Nat.le_of_ble_eq_true rfl) (hp_m0 (dk d') m) (l_room (Nat.le_of_ble_eq_true rfl) hdm hce hsl) (Nat.le_of_ble_eq_true rfl) dL_law_745 (fun r' n2 h2 hQ => ?_)
  obtain ⟨rfl, rfl, m', c', rfl, q1, q2⟩ := hk2 r' n2 h2 hQ
  exact x_icmp_eq 939 dL_law_748 (by decide) (fun _ => fin d' m' c' q1 q2) (fun q => absurd rfl q)
set_option maxHeartbeats 2000000 in
theorem lc_broken (hr : rel d m c) (hc : c + 14 < 2147483648) (hk : 5 * k + 5 ≤ Ls) (hL : Ls ≤ 2560) (hce : ce ≤ 600000) (hsl : sl ≤ 7302250) (fin : ∀ d' m' c', c' ≤ c + 14 → rel d' m' c' → xV (lF G nm b Ls xs) 939 [none, some (.ref 0), some (.ref MB), some (.int (nI (5 * k)))] [] NT (hp (dk d') m') ce sl) : xV (lF G nm b Ls xs) 753 [none, some (.ref 0), some (.ref MB), some (.int (nI (5 * k)))] [] NT (hp (dk d) m) ce sl := by
  refine x_aload1 dL_law_753 ?_
  refine l_arg (5 * k + 1) dL_law_754 dL_law_755 dL_law_756 dL_law_757 dL_law_758 (nI_add (5 * k) 1) (by omega) hL ?_
  refine l_arg (5 * k + 2) dL_law_759 dL_law_760 dL_law_761 dL_law_762 dL_law_763 (nI_add (5 * k) 2) (by omega) hL ?_
  obtain ⟨dd, P, hdd, hK, hk1⟩ := s_broken G hr (xs (5 * k + 1)) (xs (5 * k + 2))
  obtain ⟨f9, e9⟩ := dk_0 (d := d) (m := m)
  refine x_callV2i mvL_94 hK (Nat.le_of_ble_eq_true rfl) e9 (l_room (Nat.le_of_ble_eq_true rfl) hdd hce hsl) (Nat.le_of_ble_eq_true rfl) dL_law_764 (fun r n' h' hP => ?_)
  obtain ⟨rfl, d', rfl, dm, Q, hdm, hK2, hk2⟩ := hk1 r n' h' hP
  refine x_aload2 dL_law_767 ?_
  refine l_arg (5 * k + 1) dL_law_768 dL_law_769 dL_law_770 dL_law_771 dL_law_772 (nI_add (5 * k) 1) (by omega) hL ?_
  refine l_arg (5 * k + 2) dL_law_773 dL_law_774 dL_law_775 dL_law_776 dL_law_777 (nI_add (5 * k) 2) (by omega) hL ?_
  refine x_callV2i mvL_97 hK2 (Nat.le_of_ble_eq_true rfl) (hp_m0 (dk d') m) (l_room (Nat.le_of_ble_eq_true rfl) hdm hce hsl) (Nat.le_of_ble_eq_true rfl) dL_law_778 (fun r' n2 h2 hQ => ?_)
  obtain ⟨rfl, rfl, m', c', rfl, q1, q2⟩ := hk2 r' n2 h2 hQ
  exact x_icmp_eq 939 dL_law_781 (by decide) (fun _ => fin d' m' c' q1 q2) (fun q => absurd rfl q)
set_option maxHeartbeats 2000000 in
theorem lc_sum (hr : rel d m c) (hc : c + 14 < 2147483648) (hk : 5 * k + 5 ≤ Ls) (hL : Ls ≤ 2560) (hce : ce ≤ 600000) (hsl : sl ≤ 7302250) (fin : ∀ d' m' c', c' ≤ c + 14 → rel d' m' c' → xV (lF G nm b Ls xs) 939 [none, some (.ref 0), some (.ref MB), some (.int (nI (5 * k)))] [] NT (hp (dk d') m') ce sl) : xV (lF G nm b Ls xs) 786 [none, some (.ref 0), some (.ref MB), some (.int (nI (5 * k)))] [] NT (hp (dk d) m) ce sl := by
  refine x_aload1 dL_law_786 ?_
  refine l_arg (5 * k + 1) dL_law_787 dL_law_788 dL_law_789 dL_law_790 dL_law_791 (nI_add (5 * k) 1) (by omega) hL ?_
  obtain ⟨dd, P, hdd, hK, hk1⟩ := s_sum G hr (xs (5 * k + 1))
  obtain ⟨f9, e9⟩ := dk_0 (d := d) (m := m)
  refine x_callV1l mvL_98 hK (Nat.le_of_ble_eq_true rfl) e9 (l_room (Nat.le_of_ble_eq_true rfl) hdd hce hsl) (Nat.le_of_ble_eq_true rfl) dL_law_792 (fun r n' h' hP => ?_)
  obtain ⟨rfl, d', rfl, dm, Q, hdm, hK2, hk2⟩ := hk1 r n' h' hP
  refine x_aload2 dL_law_795 ?_
  refine l_arg (5 * k + 1) dL_law_796 dL_law_797 dL_law_798 dL_law_799 dL_law_800 (nI_add (5 * k) 1) (by omega) hL ?_
  refine x_callV1l mvL_102 hK2 (Nat.le_of_ble_eq_true rfl) (hp_m0 (dk d') m) (l_room (Nat.le_of_ble_eq_true rfl) hdm hce hsl) (Nat.le_of_ble_eq_true rfl) dL_law_801 (fun r' n2 h2 hQ => ?_)
  obtain ⟨rfl, rfl, m', c', rfl, q1, q2⟩ := hk2 r' n2 h2 hQ
  refine x_lcmp dL_law_804 ?_
  exact x_if_eq 939 dL_law_805 (by decide) (fun _ => fin d' m' c' q1 q2) (fun q => absurd ((lc_eq _ _).mpr rfl) q)
set_option maxHeartbeats 2000000 in
theorem lc_as (hr : rel d m c) (hc : c + 14 < 2147483648) (hk : 5 * k + 5 ≤ Ls) (hL : Ls ≤ 2560) (hce : ce ≤ 600000) (hsl : sl ≤ 7302250) (fin : ∀ d' m' c', c' ≤ c + 14 → rel d' m' c' → xV (lF G nm b Ls xs) 939 [none, some (.ref 0), some (.ref MB), some (.int (nI (5 * k)))] [] NT (hp (dk d') m') ce sl) : xV (lF G nm b Ls xs) 810 [none, some (.ref 0), some (.ref MB), some (.int (nI (5 * k)))] [] NT (hp (dk d) m) ce sl := by
  refine x_aload1 dL_law_810 ?_
  refine l_arg (5 * k + 1) dL_law_811 dL_law_812 dL_law_813 dL_law_814 dL_law_815 (nI_add (5 * k) 1) (by omega) hL ?_
  refine l_arg (5 * k + 2) dL_law_816 dL_law_817 dL_law_818 dL_law_819 dL_law_820 (nI_add (5 * k) 2) (by omega) hL ?_
  obtain ⟨dd, P, hdd, hK, hk1⟩ := s_as G hr (xs (5 * k + 1)) (xs (5 * k + 2))
  obtain ⟨f9, e9⟩ := dk_0 (d := d) (m := m)
  refine x_callV2l mvL_103 hK (Nat.le_of_ble_eq_true rfl) e9 (l_room (Nat.le_of_ble_eq_true rfl) hdd hce hsl) (Nat.le_of_ble_eq_true rfl) dL_law_821 (fun r n' h' hP => ?_)
  obtain ⟨rfl, d', rfl, dm, Q, hdm, hK2, hk2⟩ := hk1 r n' h' hP
  refine x_aload2 dL_law_824 ?_
  refine l_arg (5 * k + 1) dL_law_825 dL_law_826 dL_law_827 dL_law_828 dL_law_829 (nI_add (5 * k) 1) (by omega) hL ?_
  refine l_arg (5 * k + 2) dL_law_830 dL_law_831 dL_law_832 dL_law_833 dL_law_834 (nI_add (5 * k) 2) (by omega) hL ?_
  refine x_callV2l mvL_107 hK2 (Nat.le_of_ble_eq_true rfl) (hp_m0 (dk d') m) (l_room (Nat.le_of_ble_eq_true rfl) hdm hce hsl) (Nat.le_of_ble_eq_true rfl) dL_law_835 (fun r' n2 h2 hQ => ?_)
  obtain ⟨rfl, rfl, m', c', rfl, q1, q2⟩ := hk2 r' n2 h2 hQ
  refine x_lcmp dL_law_838 ?_
  exact x_if_eq 939 dL_law_839 (by decide) (fun _ => fin d' m' c' q1 q2) (fun q => absurd ((lc_eq _ _).mpr rfl) q)
set_option maxHeartbeats 2000000 in
theorem lc_explain (hr : rel d m c) (hc : c + 14 < 2147483648) (hk : 5 * k + 5 ≤ Ls) (hL : Ls ≤ 2560) (hce : ce ≤ 600000) (hsl : sl ≤ 7302250) (fin : ∀ d' m' c', c' ≤ c + 14 → rel d' m' c' → xV (lF G nm b Ls xs) 939 [none, some (.ref 0), some (.ref MB), some (.int (nI (5 * k)))] [] NT (hp (dk d') m') ce sl) : xV (lF G nm b Ls xs) 844 [none, some (.ref 0), some (.ref MB), some (.int (nI (5 * k)))] [] NT (hp (dk d) m) ce sl := by
  refine x_aload1 dL_law_844 ?_
  obtain ⟨dd, P, hdd, hK, hk1⟩ := s_explain G hr 
  obtain ⟨f9, e9⟩ := dk_0 (d := d) (m := m)
  refine x_callV0i mvL_108 hK (Nat.le_of_ble_eq_true rfl) e9 (l_room (Nat.le_of_ble_eq_true rfl) hdd hce hsl) (Nat.le_of_ble_eq_true rfl) dL_law_845 (fun r n' h' hP => ?_)
  obtain ⟨rfl, d', rfl, dm, Q, hdm, hK2, hk2⟩ := hk1 r n' h' hP
  refine x_aload2 dL_law_848 ?_
  refine x_callV0i mvL_111 hK2 (Nat.le_of_ble_eq_true rfl) (hp_m0 (dk d') m) (l_room (Nat.le_of_ble_eq_true rfl) hdm hce hsl) (Nat.le_of_ble_eq_true rfl) dL_law_849 (fun r' n2 h2 hQ => ?_)
  obtain ⟨rfl, rfl, m', c', rfl, q1, q2⟩ := hk2 r' n2 h2 hQ
  exact x_icmp_eq 939 dL_law_852 (by decide) (fun _ => fin d' m' c' q1 q2) (fun q => absurd rfl q)
set_option maxHeartbeats 2000000 in
theorem lc_explained (hr : rel d m c) (hc : c + 14 < 2147483648) (hk : 5 * k + 5 ≤ Ls) (hL : Ls ≤ 2560) (hce : ce ≤ 600000) (hsl : sl ≤ 7302250) (fin : ∀ d' m' c', c' ≤ c + 14 → rel d' m' c' → xV (lF G nm b Ls xs) 939 [none, some (.ref 0), some (.ref MB), some (.int (nI (5 * k)))] [] NT (hp (dk d') m') ce sl) : xV (lF G nm b Ls xs) 857 [none, some (.ref 0), some (.ref MB), some (.int (nI (5 * k)))] [] NT (hp (dk d) m) ce sl := by
  refine x_aload1 dL_law_857 ?_
  refine l_arg (5 * k + 1) dL_law_858 dL_law_859 dL_law_860 dL_law_861 dL_law_862 (nI_add (5 * k) 1) (by omega) hL ?_
  refine l_arg (5 * k + 2) dL_law_863 dL_law_864 dL_law_865 dL_law_866 dL_law_867 (nI_add (5 * k) 2) (by omega) hL ?_
  obtain ⟨dd, P, hdd, hK, hk1⟩ := s_explained G hr (xs (5 * k + 1)) (xs (5 * k + 2))
  obtain ⟨f9, e9⟩ := dk_0 (d := d) (m := m)
  refine x_callV2i mvL_112 hK (Nat.le_of_ble_eq_true rfl) e9 (l_room (Nat.le_of_ble_eq_true rfl) hdd hce hsl) (Nat.le_of_ble_eq_true rfl) dL_law_868 (fun r n' h' hP => ?_)
  obtain ⟨rfl, d', rfl, dm, Q, hdm, hK2, hk2⟩ := hk1 r n' h' hP
  refine x_aload2 dL_law_871 ?_
  refine l_arg (5 * k + 1) dL_law_872 dL_law_873 dL_law_874 dL_law_875 dL_law_876 (nI_add (5 * k) 1) (by omega) hL ?_
  refine l_arg (5 * k + 2) dL_law_877 dL_law_878 dL_law_879 dL_law_880 dL_law_881 (nI_add (5 * k) 2) (by omega) hL ?_
  refine x_callV2i mvL_115 hK2 (Nat.le_of_ble_eq_true rfl) (hp_m0 (dk d') m) (l_room (Nat.le_of_ble_eq_true rfl) hdm hce hsl) (Nat.le_of_ble_eq_true rfl) dL_law_882 (fun r' n2 h2 hQ => ?_)
  obtain ⟨rfl, rfl, m', c', rfl, q1, q2⟩ := hk2 r' n2 h2 hQ
  exact x_icmp_eq 939 dL_law_885 (by decide) (fun _ => fin d' m' c' q1 q2) (fun q => absurd rfl q)
set_option maxHeartbeats 2000000 in
theorem lc_undo (hr : rel d m c) (hc : c + 14 < 2147483648) (hk : 5 * k + 5 ≤ Ls) (hL : Ls ≤ 2560) (hce : ce ≤ 600000) (hsl : sl ≤ 7302250) (fin : ∀ d' m' c', c' ≤ c + 14 → rel d' m' c' → xV (lF G nm b Ls xs) 939 [none, some (.ref 0), some (.ref MB), some (.int (nI (5 * k)))] [] NT (hp (dk d') m') ce sl) : xV (lF G nm b Ls xs) 890 [none, some (.ref 0), some (.ref MB), some (.int (nI (5 * k)))] [] NT (hp (dk d) m) ce sl := by
  refine x_aload1 dL_law_890 ?_
  obtain ⟨dd, P, hdd, hK, hk1⟩ := s_undo G hr hc 
  obtain ⟨f9, e9⟩ := dk_0 (d := d) (m := m)
  refine x_callV0i mvL_116 hK (Nat.le_of_ble_eq_true rfl) e9 (l_room (Nat.le_of_ble_eq_true rfl) hdd hce hsl) (Nat.le_of_ble_eq_true rfl) dL_law_891 (fun r n' h' hP => ?_)
  obtain ⟨rfl, d', rfl, dm, Q, hdm, hK2, hk2⟩ := hk1 r n' h' hP
  refine x_aload2 dL_law_894 ?_
  refine x_callV0i mvL_119 hK2 (Nat.le_of_ble_eq_true rfl) (hp_m0 (dk d') m) (l_room (Nat.le_of_ble_eq_true rfl) hdm hce hsl) (Nat.le_of_ble_eq_true rfl) dL_law_895 (fun r' n2 h2 hQ => ?_)
  obtain ⟨rfl, rfl, m', c', rfl, q1, q2⟩ := hk2 r' n2 h2 hQ
  exact x_icmp_eq 939 dL_law_898 (by decide) (fun _ => fin d' m' c' q1 q2) (fun q => absurd rfl q)
set_option maxHeartbeats 2000000 in
theorem lc_count (hr : rel d m c) (hc : c + 14 < 2147483648) (hk : 5 * k + 5 ≤ Ls) (hL : Ls ≤ 2560) (hce : ce ≤ 600000) (hsl : sl ≤ 7302250) (fin : ∀ d' m' c', c' ≤ c + 14 → rel d' m' c' → xV (lF G nm b Ls xs) 939 [none, some (.ref 0), some (.ref MB), some (.int (nI (5 * k)))] [] NT (hp (dk d') m') ce sl) : xV (lF G nm b Ls xs) 903 [none, some (.ref 0), some (.ref MB), some (.int (nI (5 * k)))] [] NT (hp (dk d) m) ce sl := by
  refine x_aload1 dL_law_903 ?_
  refine l_arg (5 * k + 1) dL_law_904 dL_law_905 dL_law_906 dL_law_907 dL_law_908 (nI_add (5 * k) 1) (by omega) hL ?_
  obtain ⟨dd, P, hdd, hK, hk1⟩ := s_count G hr (xs (5 * k + 1))
  obtain ⟨f9, e9⟩ := dk_0 (d := d) (m := m)
  refine x_callV1i mvL_120 hK (Nat.le_of_ble_eq_true rfl) e9 (l_room (Nat.le_of_ble_eq_true rfl) hdd hce hsl) (Nat.le_of_ble_eq_true rfl) dL_law_909 (fun r n' h' hP => ?_)
  obtain ⟨rfl, d', rfl, dm, Q, hdm, hK2, hk2⟩ := hk1 r n' h' hP
  refine x_aload2 dL_law_912 ?_
  refine l_arg (5 * k + 1) dL_law_913 dL_law_914 dL_law_915 dL_law_916 dL_law_917 (nI_add (5 * k) 1) (by omega) hL ?_
  refine x_callV1i mvL_123 hK2 (Nat.le_of_ble_eq_true rfl) (hp_m0 (dk d') m) (l_room (Nat.le_of_ble_eq_true rfl) hdm hce hsl) (Nat.le_of_ble_eq_true rfl) dL_law_918 (fun r' n2 h2 hQ => ?_)
  obtain ⟨rfl, rfl, m', c', rfl, q1, q2⟩ := hk2 r' n2 h2 hQ
  exact x_icmp_eq 939 dL_law_921 (by decide) (fun _ => fin d' m' c' q1 q2) (fun q => absurd rfl q)
set_option maxHeartbeats 2000000 in
theorem lc_check (hr : rel d m c) (hc : c + 14 < 2147483648) (hk : 5 * k + 5 ≤ Ls) (hL : Ls ≤ 2560) (hce : ce ≤ 600000) (hsl : sl ≤ 7302250) (fin : ∀ d' m' c', c' ≤ c + 14 → rel d' m' c' → xV (lF G nm b Ls xs) 939 [none, some (.ref 0), some (.ref MB), some (.int (nI (5 * k)))] [] NT (hp (dk d') m') ce sl) : xV (lF G nm b Ls xs) 926 [none, some (.ref 0), some (.ref MB), some (.int (nI (5 * k)))] [] NT (hp (dk d) m) ce sl := by
  refine x_aload1 dL_law_926 ?_
  obtain ⟨dd, P, hdd, hK, hk1⟩ := s_check G hr 
  obtain ⟨f9, e9⟩ := dk_0 (d := d) (m := m)
  refine x_callV0i mvL_124 hK (Nat.le_of_ble_eq_true rfl) e9 (l_room (Nat.le_of_ble_eq_true rfl) hdd hce hsl) (Nat.le_of_ble_eq_true rfl) dL_law_927 (fun r n' h' hP => ?_)
  obtain ⟨rfl, d', rfl, dm, Q, hdm, hK2, hk2⟩ := hk1 r n' h' hP
  refine x_aload2 dL_law_930 ?_
  refine x_callV0i mvL_127 hK2 (Nat.le_of_ble_eq_true rfl) (hp_m0 (dk d') m) (l_room (Nat.le_of_ble_eq_true rfl) hdm hce hsl) (Nat.le_of_ble_eq_true rfl) dL_law_931 (fun r' n2 h2 hQ => ?_)
  obtain ⟨rfl, rfl, m', c', rfl, q1, q2⟩ := hk2 r' n2 h2 hQ
  exact x_icmp_eq 939 dL_law_934 (by decide) (fun _ => fin d' m' c' q1 q2) (fun q => absurd rfl q)
end LAWC
