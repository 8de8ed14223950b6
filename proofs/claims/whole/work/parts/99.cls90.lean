set_option maxHeartbeats 4000000 in
set_option maxRecDepth 100000 in
theorem law_c0 {G : GT_} (hC : okC_ G) (hM : okM_ G) (hO : 2000 ∈ gi_ G) (hX : gX_ G) {sb L : Nat} {xs : Nat → Int32} (hS : gS_ G sb L xs) (hL : L ≤ 3584) {i : Int} {cs ss : Nat} {l5 l6 : Option Value} {h : PH_} (I0 : INVE_ h) (hi : 0 ≤ i ∧ i ≤ (L : Int) - 7) (hcs : cs + 1 ≤ 601024 ∧ ss + 6 ≤ 7293033) (J : ∀ (cs1 ss1 : Nat) (l5 l6 : Option Value) (h1 : PH_), INVE_ h1 → cs1 ≤ cs + 1 → ss1 ≤ ss + 6 → PW G RL cL_law 7 (some .boolean) room_1 cs1 ss1 (zl_ G) 1195 [some (.ref sb), some (rr_ G 0), some (rr_ G mo_), some (rr_ G 2000), some (ii_ i), l5, l6] [] h1) : PW G RL cL_law 7 (some .boolean) room_1 cs ss (zl_ G) 164 [some (.ref sb), some (rr_ G 0), some (rr_ G mo_), some (rr_ G 2000), some (ii_ i), l5, l6] [] h := by
  refine pw_aload_n (z := 0) (pc := 164) dL_law_164 rfl rfl ?_
  refine pw_aloadQ_n (q := sb) (pc := 165) dL_law_165 rfl rfl ?_
  refine pw_iload (z := i) (pc := 166) dL_law_166 rfl ?_
  refine pw_iconst (pc := 168) dL_law_168 ?_
  refine pw_iadd (pc := 169) dL_law_169 ?_
  refine pw_sld (pc := 170) dL_law_170 hS hL (by omega) (by omega) ?_
  refine pw_i2l (pc := 171) dL_law_171 sv_r ?_
  refine pw_bipush (pc := 172) dL_law_172 rfl ?_
  refine pw_lshlW (pc := 174) dL_law_174 ?_
  refine pw_aloadQ_n (q := sb) (pc := 175) dL_law_175 rfl rfl ?_
  refine pw_iload (z := i) (pc := 176) dL_law_176 rfl ?_
  refine pw_iconst (pc := 178) dL_law_178 ?_
  refine pw_iadd (pc := 179) dL_law_179 ?_
  refine pw_sld (pc := 180) dL_law_180 hS hL (by omega) (by omega) ?_
  refine pw_i2l (pc := 181) dL_law_181 sv_r ?_
  refine pw_ldc2 (z := 4294967295) (pc := 182) dL_law_182 kL_27 rfl ?_
  refine pw_landW (pc := 185) dL_law_185 ?_
  refine pw_lorW (pc := 186) dL_law_186 ?_
  refine pw_aloadQ_n (q := sb) (pc := 187) dL_law_187 rfl rfl ?_
  refine pw_iload (z := i) (pc := 188) dL_law_188 rfl ?_
  refine pw_iconst (pc := 190) dL_law_190 ?_
  refine pw_iadd (pc := 191) dL_law_191 ?_
  refine pw_sld (pc := 192) dL_law_192 hS hL (by omega) (by omega) ?_
  refine pw_i2l (pc := 193) dL_law_193 sv_r ?_
  refine pw_bipush (pc := 194) dL_law_194 rfl ?_
  refine pw_lshlW (pc := 196) dL_law_196 ?_
  refine pw_aloadQ_n (q := sb) (pc := 197) dL_law_197 rfl rfl ?_
  refine pw_iload (z := i) (pc := 198) dL_law_198 rfl ?_
  refine pw_iconst (pc := 200) dL_law_200 ?_
  refine pw_iadd (pc := 201) dL_law_201 ?_
  refine pw_sld (pc := 202) dL_law_202 hS hL (by omega) (by omega) ?_
  refine pw_i2l (pc := 203) dL_law_203 sv_r ?_
  refine pw_ldc2 (z := 4294967295) (pc := 204) dL_law_204 kL_27 rfl ?_
  refine pw_landW (pc := 207) dL_law_207 ?_
  refine pw_lorW (pc := 208) dL_law_208 ?_
  refine pw_aloadQ_n (q := sb) (pc := 209) dL_law_209 rfl rfl ?_
  refine pw_iload (z := i) (pc := 210) dL_law_210 rfl ?_
  refine pw_iconst (pc := 212) dL_law_212 ?_
  refine pw_iadd (pc := 213) dL_law_213 ?_
  refine pw_sld (pc := 214) dL_law_214 hS hL (by omega) (by omega) ?_
  refine pw_i2l (pc := 215) dL_law_215 sv_r ?_
  refine pw_bipush (pc := 216) dL_law_216 rfl ?_
  refine pw_lshlW (pc := 218) dL_law_218 ?_
  refine pw_aloadQ_n (q := sb) (pc := 219) dL_law_219 rfl rfl ?_
  refine pw_iload (z := i) (pc := 220) dL_law_220 rfl ?_
  refine pw_bipush (pc := 222) dL_law_222 rfl ?_
  refine pw_iadd (pc := 224) dL_law_224 ?_
  refine pw_sld (pc := 225) dL_law_225 hS hL (by omega) (by omega) ?_
  refine pw_i2l (pc := 226) dL_law_226 sv_r ?_
  refine pw_ldc2 (z := 4294967295) (pc := 227) dL_law_227 kL_27 rfl ?_
  refine pw_landW (pc := 230) dL_law_230 ?_
  refine pw_lorW (pc := 231) dL_law_231 ?_
  obtain ⟨Q1, P1, K1⟩ := pair_feed hC hM I0 (lor_ (lsh_ (sv_ xs (i + 1)) 32) (lnd_ (sv_ xs (i + 2)) (4294967295))) (lor_ (lsh_ (sv_ xs (i + 3)) 32) (lnd_ (sv_ xs (i + 4)) (4294967295))) (lor_ (lsh_ (sv_ xs (i + 5)) 32) (lnd_ (sv_ xs (i + 6)) (4294967295))) (lr_toInt _) (lr_toInt _) (lr_toInt _)
  refine pw_callV (c := 11) (o := 0) (As := [ll_ (lor_ (lsh_ (sv_ xs (i + 1)) 32) (lnd_ (sv_ xs (i + 2)) (4294967295))), ll_ (lor_ (lsh_ (sv_ xs (i + 3)) 32) (lnd_ (sv_ xs (i + 4)) (4294967295))), ll_ (lor_ (lsh_ (sv_ xs (i + 5)) 32) (lnd_ (sv_ xs (i + 6)) (4294967295)))]) (rest := []) (pc := 232) dL_law_232 P1 lL_29 mX11_feed vX11_feed (hC 0 (by decide)) (show kd_ 0 = 21 by decide +kernel) rfl rfl rfl (by decide) ⟨by show _ ≤ 601024; omega, by show _ ≤ 7293033; omega⟩ (Nat.le_of_ble_eq_true rfl) (k_i (fun z1 g1 y1 q1 => ?_))
  obtain ⟨Q2, P2, K2⟩ := K1 z1 g1 q1
  refine pw_aload_n (z := mo_) (pc := 235) dL_law_235 rfl rfl ?_
  refine pw_aloadQ_n (q := sb) (pc := 236) dL_law_236 rfl rfl ?_
  refine pw_iload (z := i) (pc := 237) dL_law_237 rfl ?_
  refine pw_iconst (pc := 239) dL_law_239 ?_
  refine pw_iadd (pc := 240) dL_law_240 ?_
  refine pw_sld (pc := 241) dL_law_241 hS hL (by omega) (by omega) ?_
  refine pw_i2l (pc := 242) dL_law_242 sv_r ?_
  refine pw_bipush (pc := 243) dL_law_243 rfl ?_
  refine pw_lshlW (pc := 245) dL_law_245 ?_
  refine pw_aloadQ_n (q := sb) (pc := 246) dL_law_246 rfl rfl ?_
  refine pw_iload (z := i) (pc := 247) dL_law_247 rfl ?_
  refine pw_iconst (pc := 249) dL_law_249 ?_
  refine pw_iadd (pc := 250) dL_law_250 ?_
  refine pw_sld (pc := 251) dL_law_251 hS hL (by omega) (by omega) ?_
  refine pw_i2l (pc := 252) dL_law_252 sv_r ?_
  refine pw_ldc2 (z := 4294967295) (pc := 253) dL_law_253 kL_27 rfl ?_
  refine pw_landW (pc := 256) dL_law_256 ?_
  refine pw_lorW (pc := 257) dL_law_257 ?_
  refine pw_aloadQ_n (q := sb) (pc := 258) dL_law_258 rfl rfl ?_
  refine pw_iload (z := i) (pc := 259) dL_law_259 rfl ?_
  refine pw_iconst (pc := 261) dL_law_261 ?_
  refine pw_iadd (pc := 262) dL_law_262 ?_
  refine pw_sld (pc := 263) dL_law_263 hS hL (by omega) (by omega) ?_
  refine pw_i2l (pc := 264) dL_law_264 sv_r ?_
  refine pw_bipush (pc := 265) dL_law_265 rfl ?_
  refine pw_lshlW (pc := 267) dL_law_267 ?_
  refine pw_aloadQ_n (q := sb) (pc := 268) dL_law_268 rfl rfl ?_
  refine pw_iload (z := i) (pc := 269) dL_law_269 rfl ?_
  refine pw_iconst (pc := 271) dL_law_271 ?_
  refine pw_iadd (pc := 272) dL_law_272 ?_
  refine pw_sld (pc := 273) dL_law_273 hS hL (by omega) (by omega) ?_
  refine pw_i2l (pc := 274) dL_law_274 sv_r ?_
  refine pw_ldc2 (z := 4294967295) (pc := 275) dL_law_275 kL_27 rfl ?_
  refine pw_landW (pc := 278) dL_law_278 ?_
  refine pw_lorW (pc := 279) dL_law_279 ?_
  refine pw_aloadQ_n (q := sb) (pc := 280) dL_law_280 rfl rfl ?_
  refine pw_iload (z := i) (pc := 281) dL_law_281 rfl ?_
  refine pw_iconst (pc := 283) dL_law_283 ?_
  refine pw_iadd (pc := 284) dL_law_284 ?_
  refine pw_sld (pc := 285) dL_law_285 hS hL (by omega) (by omega) ?_
  refine pw_i2l (pc := 286) dL_law_286 sv_r ?_
  refine pw_bipush (pc := 287) dL_law_287 rfl ?_
  refine pw_lshlW (pc := 289) dL_law_289 ?_
  refine pw_aloadQ_n (q := sb) (pc := 290) dL_law_290 rfl rfl ?_
  refine pw_iload (z := i) (pc := 291) dL_law_291 rfl ?_
  refine pw_bipush (pc := 293) dL_law_293 rfl ?_
  refine pw_iadd (pc := 295) dL_law_295 ?_
  refine pw_sld (pc := 296) dL_law_296 hS hL (by omega) (by omega) ?_
  refine pw_i2l (pc := 297) dL_law_297 sv_r ?_
  refine pw_ldc2 (z := 4294967295) (pc := 298) dL_law_298 kL_27 rfl ?_
  refine pw_landW (pc := 301) dL_law_301 ?_
  refine pw_lorW (pc := 302) dL_law_302 ?_
  refine pw_callV (c := 12) (o := mo_) (As := [ll_ (lor_ (lsh_ (sv_ xs (i + 1)) 32) (lnd_ (sv_ xs (i + 2)) (4294967295))), ll_ (lor_ (lsh_ (sv_ xs (i + 3)) 32) (lnd_ (sv_ xs (i + 4)) (4294967295))), ll_ (lor_ (lsh_ (sv_ xs (i + 5)) 32) (lnd_ (sv_ xs (i + 6)) (4294967295)))]) (rest := [ii_ z1]) (pc := 303) dL_law_303 P2 lL_33 mX12_feed vX12_feed (im_mo_ hM) k_mo_ rfl rfl rfl (by decide) ⟨by show _ ≤ 601024; omega, by show _ ≤ 7293033; omega⟩ (Nat.le_of_ble_eq_true rfl) (k_i (fun z2 g2 y2 q2 => ?_))
  obtain ⟨e12, I2⟩ := K2 z2 g2 q2
  subst e12
  refine pw_icmp_eq (t := 1195) (pc := 306) dL_law_306 (by decide) y1 y1 (fun _ => ?_) (fun c => absurd rfl c)
  exact J cs ss l5 l6 _ I2 (by omega) (by omega)

set_option maxHeartbeats 4000000 in
set_option maxRecDepth 100000 in
theorem law_c1 {G : GT_} (hC : okC_ G) (hM : okM_ G) (hO : 2000 ∈ gi_ G) (hX : gX_ G) {sb L : Nat} {xs : Nat → Int32} (hS : gS_ G sb L xs) (hL : L ≤ 3584) {i : Int} {cs ss : Nat} {l5 l6 : Option Value} {h : PH_} (I0 : INVE_ h) (hi : 0 ≤ i ∧ i ≤ (L : Int) - 7) (hcs : cs + 1 ≤ 601024 ∧ ss + 6 ≤ 7293033) (J : ∀ (cs1 ss1 : Nat) (l5 l6 : Option Value) (h1 : PH_), INVE_ h1 → cs1 ≤ cs + 1 → ss1 ≤ ss + 6 → PW G RL cL_law 7 (some .boolean) room_1 cs1 ss1 (zl_ G) 1195 [some (.ref sb), some (rr_ G 0), some (rr_ G mo_), some (rr_ G 2000), some (ii_ i), l5, l6] [] h1) : PW G RL cL_law 7 (some .boolean) room_1 cs ss (zl_ G) 311 [some (.ref sb), some (rr_ G 0), some (rr_ G mo_), some (rr_ G 2000), some (ii_ i), l5, l6] [] h := by
  refine pw_aload_n (z := 0) (pc := 311) dL_law_311 rfl rfl ?_
  obtain ⟨Q1, P1, K1⟩ := pair_road hC hM I0  
  refine pw_callV (c := 11) (o := 0) (As := []) (rest := []) (pc := 312) dL_law_312 P1 lL_34 mX11_road vX11_road (hC 0 (by decide)) (show kd_ 0 = 21 by decide +kernel) rfl rfl rfl (by decide) ⟨by show _ ≤ 601024; omega, by show _ ≤ 7293033; omega⟩ (Nat.le_of_ble_eq_true rfl) (k_i (fun z1 g1 y1 q1 => ?_))
  obtain ⟨Q2, P2, K2⟩ := K1 z1 g1 q1
  refine pw_aload_n (z := mo_) (pc := 315) dL_law_315 rfl rfl ?_
  refine pw_callV (c := 12) (o := mo_) (As := []) (rest := [ii_ z1]) (pc := 316) dL_law_316 P2 lL_37 mX12_road vX12_road (im_mo_ hM) k_mo_ rfl rfl rfl (by decide) ⟨by show _ ≤ 601024; omega, by show _ ≤ 7293033; omega⟩ (Nat.le_of_ble_eq_true rfl) (k_i (fun z2 g2 y2 q2 => ?_))
  obtain ⟨e12, I2⟩ := K2 z2 g2 q2
  subst e12
  refine pw_icmp_eq (t := 1195) (pc := 319) dL_law_319 (by decide) y1 y1 (fun _ => ?_) (fun c => absurd rfl c)
  exact J cs ss l5 l6 _ I2 (by omega) (by omega)

set_option maxHeartbeats 4000000 in
set_option maxRecDepth 100000 in
theorem law_c2 {G : GT_} (hC : okC_ G) (hM : okM_ G) (hO : 2000 ∈ gi_ G) (hX : gX_ G) {sb L : Nat} {xs : Nat → Int32} (hS : gS_ G sb L xs) (hL : L ≤ 3584) {i : Int} {cs ss : Nat} {l5 l6 : Option Value} {h : PH_} (I0 : INVE_ h) (hi : 0 ≤ i ∧ i ≤ (L : Int) - 7) (hcs : cs + 1 ≤ 601024 ∧ ss + 6 ≤ 7293033) (J : ∀ (cs1 ss1 : Nat) (l5 l6 : Option Value) (h1 : PH_), INVE_ h1 → cs1 ≤ cs + 1 → ss1 ≤ ss + 6 → PW G RL cL_law 7 (some .boolean) room_1 cs1 ss1 (zl_ G) 1195 [some (.ref sb), some (rr_ G 0), some (rr_ G mo_), some (rr_ G 2000), some (ii_ i), l5, l6] [] h1) : PW G RL cL_law 7 (some .boolean) room_1 cs ss (zl_ G) 324 [some (.ref sb), some (rr_ G 0), some (rr_ G mo_), some (rr_ G 2000), some (ii_ i), l5, l6] [] h := by
  refine pw_aload_n (z := 0) (pc := 324) dL_law_324 rfl rfl ?_
  obtain ⟨Q1, P1, K1⟩ := pair_journey hC hM I0  
  refine pw_callV (c := 11) (o := 0) (As := []) (rest := []) (pc := 325) dL_law_325 P1 lL_38 mX11_journey vX11_journey (hC 0 (by decide)) (show kd_ 0 = 21 by decide +kernel) rfl rfl rfl (by decide) ⟨by show _ ≤ 601024; omega, by show _ ≤ 7293033; omega⟩ (Nat.le_of_ble_eq_true rfl) (k_i (fun z1 g1 y1 q1 => ?_))
  obtain ⟨Q2, P2, K2⟩ := K1 z1 g1 q1
  refine pw_aload_n (z := mo_) (pc := 328) dL_law_328 rfl rfl ?_
  refine pw_callV (c := 12) (o := mo_) (As := []) (rest := [ii_ z1]) (pc := 329) dL_law_329 P2 lL_41 mX12_journey vX12_journey (im_mo_ hM) k_mo_ rfl rfl rfl (by decide) ⟨by show _ ≤ 601024; omega, by show _ ≤ 7293033; omega⟩ (Nat.le_of_ble_eq_true rfl) (k_i (fun z2 g2 y2 q2 => ?_))
  obtain ⟨e12, I2⟩ := K2 z2 g2 q2
  subst e12
  refine pw_icmp_eq (t := 1195) (pc := 332) dL_law_332 (by decide) y1 y1 (fun _ => ?_) (fun c => absurd rfl c)
  exact J cs ss l5 l6 _ I2 (by omega) (by omega)

set_option maxHeartbeats 4000000 in
set_option maxRecDepth 100000 in
theorem law_c3 {G : GT_} (hC : okC_ G) (hM : okM_ G) (hO : 2000 ∈ gi_ G) (hX : gX_ G) {sb L : Nat} {xs : Nat → Int32} (hS : gS_ G sb L xs) (hL : L ≤ 3584) {i : Int} {cs ss : Nat} {l5 l6 : Option Value} {h : PH_} (I0 : INVE_ h) (hi : 0 ≤ i ∧ i ≤ (L : Int) - 7) (hcs : cs + 1 ≤ 601024 ∧ ss + 6 ≤ 7293033) (J : ∀ (cs1 ss1 : Nat) (l5 l6 : Option Value) (h1 : PH_), INVE_ h1 → cs1 ≤ cs + 1 → ss1 ≤ ss + 6 → PW G RL cL_law 7 (some .boolean) room_1 cs1 ss1 (zl_ G) 1195 [some (.ref sb), some (rr_ G 0), some (rr_ G mo_), some (rr_ G 2000), some (ii_ i), l5, l6] [] h1) : PW G RL cL_law 7 (some .boolean) room_1 cs ss (zl_ G) 337 [some (.ref sb), some (rr_ G 0), some (rr_ G mo_), some (rr_ G 2000), some (ii_ i), l5, l6] [] h := by
  refine pw_aload_n (z := 0) (pc := 337) dL_law_337 rfl rfl ?_
  obtain ⟨Q1, P1, K1⟩ := pair_shares hC hM I0  
  refine pw_callV (c := 11) (o := 0) (As := []) (rest := []) (pc := 338) dL_law_338 P1 lL_42 mX11_shares vX11_shares (hC 0 (by decide)) (show kd_ 0 = 21 by decide +kernel) rfl rfl rfl (by decide) ⟨by show _ ≤ 601024; omega, by show _ ≤ 7293033; omega⟩ (Nat.le_of_ble_eq_true rfl) (k_i (fun z1 g1 y1 q1 => ?_))
  obtain ⟨Q2, P2, K2⟩ := K1 z1 g1 q1
  refine pw_aload_n (z := mo_) (pc := 341) dL_law_341 rfl rfl ?_
  refine pw_callV (c := 12) (o := mo_) (As := []) (rest := [ii_ z1]) (pc := 342) dL_law_342 P2 lL_45 mX12_shares vX12_shares (im_mo_ hM) k_mo_ rfl rfl rfl (by decide) ⟨by show _ ≤ 601024; omega, by show _ ≤ 7293033; omega⟩ (Nat.le_of_ble_eq_true rfl) (k_i (fun z2 g2 y2 q2 => ?_))
  obtain ⟨e12, I2⟩ := K2 z2 g2 q2
  subst e12
  refine pw_icmp_eq (t := 1195) (pc := 345) dL_law_345 (by decide) y1 y1 (fun _ => ?_) (fun c => absurd rfl c)
  exact J cs ss l5 l6 _ I2 (by omega) (by omega)

set_option maxHeartbeats 4000000 in
set_option maxRecDepth 100000 in
theorem law_c4 {G : GT_} (hC : okC_ G) (hM : okM_ G) (hO : 2000 ∈ gi_ G) (hX : gX_ G) {sb L : Nat} {xs : Nat → Int32} (hS : gS_ G sb L xs) (hL : L ≤ 3584) {i : Int} {cs ss : Nat} {l5 l6 : Option Value} {h : PH_} (I0 : INVE_ h) (hi : 0 ≤ i ∧ i ≤ (L : Int) - 7) (hcs : cs + 1 ≤ 601024 ∧ ss + 6 ≤ 7293033) (J : ∀ (cs1 ss1 : Nat) (l5 l6 : Option Value) (h1 : PH_), INVE_ h1 → cs1 ≤ cs + 1 → ss1 ≤ ss + 6 → PW G RL cL_law 7 (some .boolean) room_1 cs1 ss1 (zl_ G) 1195 [some (.ref sb), some (rr_ G 0), some (rr_ G mo_), some (rr_ G 2000), some (ii_ i), l5, l6] [] h1) : PW G RL cL_law 7 (some .boolean) room_1 cs ss (zl_ G) 350 [some (.ref sb), some (rr_ G 0), some (rr_ G mo_), some (rr_ G 2000), some (ii_ i), l5, l6] [] h := by
  refine pw_aload_n (z := 0) (pc := 350) dL_law_350 rfl rfl ?_
  refine pw_aloadQ_n (q := sb) (pc := 351) dL_law_351 rfl rfl ?_
  refine pw_iload (z := i) (pc := 352) dL_law_352 rfl ?_
  refine pw_iconst (pc := 354) dL_law_354 ?_
  refine pw_iadd (pc := 355) dL_law_355 ?_
  refine pw_sld (pc := 356) dL_law_356 hS hL (by omega) (by omega) ?_
  refine pw_aloadQ_n (q := sb) (pc := 357) dL_law_357 rfl rfl ?_
  refine pw_iload (z := i) (pc := 358) dL_law_358 rfl ?_
  refine pw_iconst (pc := 360) dL_law_360 ?_
  refine pw_iadd (pc := 361) dL_law_361 ?_
  refine pw_sld (pc := 362) dL_law_362 hS hL (by omega) (by omega) ?_
  refine pw_aload_n (z := 2000) (pc := 363) dL_law_363 rfl rfl ?_
  obtain ⟨Q1, P1, K1⟩ := pair_rider hC hM hO hX I0 (sv_ xs (i + 1)) (sv_ xs (i + 2)) sv_r sv_r
  refine pw_callH (n := 4) (As := [rr_ G 0, ii_ (sv_ xs (i + 1)), ii_ (sv_ xs (i + 2)), rr_ G 2000]) (rest := []) (pc := 364) dL_law_364 P1 lL_46 cwh_rider ini_L sth_rider (by decide +kernel) rfl rfl (by decide) ⟨by show _ ≤ 601024; omega, by show _ ≤ 7293033; omega⟩ (Nat.le_of_ble_eq_true rfl) (k_i (fun z1 g1 y1 q1 => ?_))
  obtain ⟨Q2, P2, K2⟩ := K1 z1 g1 q1
  refine pw_istore (lv1 := [some (.ref sb), some (rr_ G 0), some (rr_ G mo_), some (rr_ G 2000), some (ii_ i), (some (ii_ z1)), l6]) (pc := 367) dL_law_367 (by decide) rfl rfl ?_
  refine pw_aload_n (z := mo_) (pc := 369) dL_law_369 rfl rfl ?_
  refine pw_aloadQ_n (q := sb) (pc := 370) dL_law_370 rfl rfl ?_
  refine pw_iload (z := i) (pc := 371) dL_law_371 rfl ?_
  refine pw_iconst (pc := 373) dL_law_373 ?_
  refine pw_iadd (pc := 374) dL_law_374 ?_
  refine pw_sld (pc := 375) dL_law_375 hS hL (by omega) (by omega) ?_
  refine pw_aloadQ_n (q := sb) (pc := 376) dL_law_376 rfl rfl ?_
  refine pw_iload (z := i) (pc := 377) dL_law_377 rfl ?_
  refine pw_iconst (pc := 379) dL_law_379 ?_
  refine pw_iadd (pc := 380) dL_law_380 ?_
  refine pw_sld (pc := 381) dL_law_381 hS hL (by omega) (by omega) ?_
  refine pw_callV (c := 12) (o := mo_) (As := [ii_ (sv_ xs (i + 1)), ii_ (sv_ xs (i + 2))]) (rest := []) (pc := 382) dL_law_382 P2 lL_51 mX12_rider vX12_rider (im_mo_ hM) k_mo_ rfl rfl rfl (by decide) ⟨by show _ ≤ 601024; omega, by show _ ≤ 7293033; omega⟩ (Nat.le_of_ble_eq_true rfl) (k_i (fun z2 g2 y2 q2 => ?_))
  obtain ⟨e1, e2, I2⟩ := K2 z2 g2 q2
  refine pw_istore (lv1 := [some (.ref sb), some (rr_ G 0), some (rr_ G mo_), some (rr_ G 2000), some (ii_ i), (some (ii_ z1)), (some (ii_ z2))]) (pc := 385) dL_law_385 (by decide) rfl rfl ?_
  refine pw_aload_n (z := mo_) (pc := 387) dL_law_387 rfl rfl ?_
  refine pw_callV (c := 12) (o := mo_) (As := []) (rest := []) (pc := 388) dL_law_388 (c_thrown hM g2) lL_52 mX12_thrown vX12_thrown (im_mo_ hM) k_mo_ rfl rfl rfl (by decide) ⟨by show _ ≤ 601024; omega, by show _ ≤ 7293033; omega⟩ (Nat.le_of_ble_eq_true rfl) (k_i (fun z3 g3 y3 q3 => ?_))
  obtain ⟨rfl, e3⟩ := q3
  refine pw_iload (z := z1) (pc := 391) dL_law_391 rfl ?_
  refine pw_icmp_eq (t := 398) (pc := 393) dL_law_393 (by decide) y3 y1 (fun _ => ?_) (fun c => absurd (e3.trans e1) c)
  refine pw_iload (z := z1) (pc := 398) dL_law_398 rfl ?_
  refine pw_if_ne (t := 415) (pc := 400) dL_law_400 (by decide) y1 (fun cz => ?_) (fun cz => ?_)
  · refine pw_goto (t := 1195) (pc := 415) dL_law_415 (by decide) ?_
    exact J (cs + 1) (ss + 6) (some (ii_ z1)) (some (ii_ z2)) _ I2 (by omega) (by omega)
  · have e0 : g2 2000 0 = z2 := by rcases e2 with u | u; exact u.2; exfalso; omega
    refine pw_aload_n (z := 2000) (pc := 403) dL_law_403 rfl rfl ?_
    refine pw_iconst (pc := 404) dL_law_404 ?_
    refine pw_lald (pc := 405) dL_law_405 hO (by decide +kernel) 1 (by decide +kernel) (by decide) (by decide) (by constructor <;> decide) (fun x0 => ?_)
    refine pw_iload (z := z2) (pc := 406) dL_law_406 rfl ?_
    refine pw_i2l (pc := 408) dL_law_408 y2 ?_
    refine pw_lcmp (pc := 409) dL_law_409 x0 (by have u := y2.1; have v := y2.2; constructor <;> omega) ?_
    refine pw_if_eq (t := 415) (pc := 410) dL_law_410 (by decide) (by rw [e0, if_neg (Int.lt_irrefl _), if_pos rfl]; constructor <;> decide) (fun _ => ?_) (fun c => absurd (by rw [e0, if_neg (Int.lt_irrefl _), if_pos rfl]) c)
    refine pw_goto (t := 1195) (pc := 415) dL_law_415 (by decide) ?_
    exact J (cs + 1) (ss + 6) (some (ii_ z1)) (some (ii_ z2)) _ I2 (by omega) (by omega)

set_option maxHeartbeats 4000000 in
set_option maxRecDepth 100000 in
theorem law_c5 {G : GT_} (hC : okC_ G) (hM : okM_ G) (hO : 2000 ∈ gi_ G) (hX : gX_ G) {sb L : Nat} {xs : Nat → Int32} (hS : gS_ G sb L xs) (hL : L ≤ 3584) {i : Int} {cs ss : Nat} {l5 l6 : Option Value} {h : PH_} (I0 : INVE_ h) (hi : 0 ≤ i ∧ i ≤ (L : Int) - 7) (hcs : cs + 1 ≤ 601024 ∧ ss + 6 ≤ 7293033) (J : ∀ (cs1 ss1 : Nat) (l5 l6 : Option Value) (h1 : PH_), INVE_ h1 → cs1 ≤ cs + 1 → ss1 ≤ ss + 6 → PW G RL cL_law 7 (some .boolean) room_1 cs1 ss1 (zl_ G) 1195 [some (.ref sb), some (rr_ G 0), some (rr_ G mo_), some (rr_ G 2000), some (ii_ i), l5, l6] [] h1) : PW G RL cL_law 7 (some .boolean) room_1 cs ss (zl_ G) 418 [some (.ref sb), some (rr_ G 0), some (rr_ G mo_), some (rr_ G 2000), some (ii_ i), l5, l6] [] h := by
  refine pw_aload_n (z := 0) (pc := 418) dL_law_418 rfl rfl ?_
  refine pw_aloadQ_n (q := sb) (pc := 419) dL_law_419 rfl rfl ?_
  refine pw_iload (z := i) (pc := 420) dL_law_420 rfl ?_
  refine pw_iconst (pc := 422) dL_law_422 ?_
  refine pw_iadd (pc := 423) dL_law_423 ?_
  refine pw_sld (pc := 424) dL_law_424 hS hL (by omega) (by omega) ?_
  refine pw_aloadQ_n (q := sb) (pc := 425) dL_law_425 rfl rfl ?_
  refine pw_iload (z := i) (pc := 426) dL_law_426 rfl ?_
  refine pw_iconst (pc := 428) dL_law_428 ?_
  refine pw_iadd (pc := 429) dL_law_429 ?_
  refine pw_sld (pc := 430) dL_law_430 hS hL (by omega) (by omega) ?_
  obtain ⟨Q1, P1, K1⟩ := pair_stretch hC hM I0 (sv_ xs (i + 1)) (sv_ xs (i + 2)) sv_r sv_r
  refine pw_callV (c := 11) (o := 0) (As := [ii_ (sv_ xs (i + 1)), ii_ (sv_ xs (i + 2))]) (rest := []) (pc := 431) dL_law_431 P1 lL_55 mX11_stretch vX11_stretch (hC 0 (by decide)) (show kd_ 0 = 21 by decide +kernel) rfl rfl rfl (by decide) ⟨by show _ ≤ 601024; omega, by show _ ≤ 7293033; omega⟩ (Nat.le_of_ble_eq_true rfl) (k_i (fun z1 g1 y1 q1 => ?_))
  obtain ⟨Q2, P2, K2⟩ := K1 z1 g1 q1
  refine pw_aload_n (z := mo_) (pc := 434) dL_law_434 rfl rfl ?_
  refine pw_aloadQ_n (q := sb) (pc := 435) dL_law_435 rfl rfl ?_
  refine pw_iload (z := i) (pc := 436) dL_law_436 rfl ?_
  refine pw_iconst (pc := 438) dL_law_438 ?_
  refine pw_iadd (pc := 439) dL_law_439 ?_
  refine pw_sld (pc := 440) dL_law_440 hS hL (by omega) (by omega) ?_
  refine pw_aloadQ_n (q := sb) (pc := 441) dL_law_441 rfl rfl ?_
  refine pw_iload (z := i) (pc := 442) dL_law_442 rfl ?_
  refine pw_iconst (pc := 444) dL_law_444 ?_
  refine pw_iadd (pc := 445) dL_law_445 ?_
  refine pw_sld (pc := 446) dL_law_446 hS hL (by omega) (by omega) ?_
  refine pw_callV (c := 12) (o := mo_) (As := [ii_ (sv_ xs (i + 1)), ii_ (sv_ xs (i + 2))]) (rest := [ii_ z1]) (pc := 447) dL_law_447 P2 lL_58 mX12_stretch vX12_stretch (im_mo_ hM) k_mo_ rfl rfl rfl (by decide) ⟨by show _ ≤ 601024; omega, by show _ ≤ 7293033; omega⟩ (Nat.le_of_ble_eq_true rfl) (k_i (fun z2 g2 y2 q2 => ?_))
  obtain ⟨e12, I2⟩ := K2 z2 g2 q2
  subst e12
  refine pw_icmp_eq (t := 1195) (pc := 450) dL_law_450 (by decide) y1 y1 (fun _ => ?_) (fun c => absurd rfl c)
  exact J cs ss l5 l6 _ I2 (by omega) (by omega)

set_option maxHeartbeats 4000000 in
set_option maxRecDepth 100000 in
theorem law_c6 {G : GT_} (hC : okC_ G) (hM : okM_ G) (hO : 2000 ∈ gi_ G) (hX : gX_ G) {sb L : Nat} {xs : Nat → Int32} (hS : gS_ G sb L xs) (hL : L ≤ 3584) {i : Int} {cs ss : Nat} {l5 l6 : Option Value} {h : PH_} (I0 : INVE_ h) (hi : 0 ≤ i ∧ i ≤ (L : Int) - 7) (hcs : cs + 1 ≤ 601024 ∧ ss + 6 ≤ 7293033) (J : ∀ (cs1 ss1 : Nat) (l5 l6 : Option Value) (h1 : PH_), INVE_ h1 → cs1 ≤ cs + 1 → ss1 ≤ ss + 6 → PW G RL cL_law 7 (some .boolean) room_1 cs1 ss1 (zl_ G) 1195 [some (.ref sb), some (rr_ G 0), some (rr_ G mo_), some (rr_ G 2000), some (ii_ i), l5, l6] [] h1) : PW G RL cL_law 7 (some .boolean) room_1 cs ss (zl_ G) 455 [some (.ref sb), some (rr_ G 0), some (rr_ G mo_), some (rr_ G 2000), some (ii_ i), l5, l6] [] h := by
  refine pw_aload_n (z := 0) (pc := 455) dL_law_455 rfl rfl ?_
  refine pw_aloadQ_n (q := sb) (pc := 456) dL_law_456 rfl rfl ?_
  refine pw_iload (z := i) (pc := 457) dL_law_457 rfl ?_
  refine pw_iconst (pc := 459) dL_law_459 ?_
  refine pw_iadd (pc := 460) dL_law_460 ?_
  refine pw_sld (pc := 461) dL_law_461 hS hL (by omega) (by omega) ?_
  obtain ⟨Q1, P1, K1⟩ := pair_lawful hC hM I0 (sv_ xs (i + 1)) sv_r
  refine pw_callV (c := 11) (o := 0) (As := [ii_ (sv_ xs (i + 1))]) (rest := []) (pc := 462) dL_law_462 P1 lL_59 mX11_lawful vX11_lawful (hC 0 (by decide)) (show kd_ 0 = 21 by decide +kernel) rfl rfl rfl (by decide) ⟨by show _ ≤ 601024; omega, by show _ ≤ 7293033; omega⟩ (Nat.le_of_ble_eq_true rfl) (k_i (fun z1 g1 y1 q1 => ?_))
  obtain ⟨Q2, P2, K2⟩ := K1 z1 g1 q1
  refine pw_aload_n (z := mo_) (pc := 465) dL_law_465 rfl rfl ?_
  refine pw_aloadQ_n (q := sb) (pc := 466) dL_law_466 rfl rfl ?_
  refine pw_iload (z := i) (pc := 467) dL_law_467 rfl ?_
  refine pw_iconst (pc := 469) dL_law_469 ?_
  refine pw_iadd (pc := 470) dL_law_470 ?_
  refine pw_sld (pc := 471) dL_law_471 hS hL (by omega) (by omega) ?_
  refine pw_callV (c := 12) (o := mo_) (As := [ii_ (sv_ xs (i + 1))]) (rest := [ii_ z1]) (pc := 472) dL_law_472 P2 lL_62 mX12_lawful vX12_lawful (im_mo_ hM) k_mo_ rfl rfl rfl (by decide) ⟨by show _ ≤ 601024; omega, by show _ ≤ 7293033; omega⟩ (Nat.le_of_ble_eq_true rfl) (k_i (fun z2 g2 y2 q2 => ?_))
  obtain ⟨e12, I2⟩ := K2 z2 g2 q2
  subst e12
  refine pw_icmp_eq (t := 1195) (pc := 475) dL_law_475 (by decide) y1 y1 (fun _ => ?_) (fun c => absurd rfl c)
  exact J cs ss l5 l6 _ I2 (by omega) (by omega)

set_option maxHeartbeats 4000000 in
set_option maxRecDepth 100000 in
theorem law_c7 {G : GT_} (hC : okC_ G) (hM : okM_ G) (hO : 2000 ∈ gi_ G) (hX : gX_ G) {sb L : Nat} {xs : Nat → Int32} (hS : gS_ G sb L xs) (hL : L ≤ 3584) {i : Int} {cs ss : Nat} {l5 l6 : Option Value} {h : PH_} (I0 : INVE_ h) (hi : 0 ≤ i ∧ i ≤ (L : Int) - 7) (hcs : cs + 1 ≤ 601024 ∧ ss + 6 ≤ 7293033) (J : ∀ (cs1 ss1 : Nat) (l5 l6 : Option Value) (h1 : PH_), INVE_ h1 → cs1 ≤ cs + 1 → ss1 ≤ ss + 6 → PW G RL cL_law 7 (some .boolean) room_1 cs1 ss1 (zl_ G) 1195 [some (.ref sb), some (rr_ G 0), some (rr_ G mo_), some (rr_ G 2000), some (ii_ i), l5, l6] [] h1) : PW G RL cL_law 7 (some .boolean) room_1 cs ss (zl_ G) 480 [some (.ref sb), some (rr_ G 0), some (rr_ G mo_), some (rr_ G 2000), some (ii_ i), l5, l6] [] h := by
  refine pw_aload_n (z := 0) (pc := 480) dL_law_480 rfl rfl ?_
  refine pw_aloadQ_n (q := sb) (pc := 481) dL_law_481 rfl rfl ?_
  refine pw_iload (z := i) (pc := 482) dL_law_482 rfl ?_
  refine pw_iconst (pc := 484) dL_law_484 ?_
  refine pw_iadd (pc := 485) dL_law_485 ?_
  refine pw_sld (pc := 486) dL_law_486 hS hL (by omega) (by omega) ?_
  refine pw_aloadQ_n (q := sb) (pc := 487) dL_law_487 rfl rfl ?_
  refine pw_iload (z := i) (pc := 488) dL_law_488 rfl ?_
  refine pw_iconst (pc := 490) dL_law_490 ?_
  refine pw_iadd (pc := 491) dL_law_491 ?_
  refine pw_sld (pc := 492) dL_law_492 hS hL (by omega) (by omega) ?_
  refine pw_aloadQ_n (q := sb) (pc := 493) dL_law_493 rfl rfl ?_
  refine pw_iload (z := i) (pc := 494) dL_law_494 rfl ?_
  refine pw_iconst (pc := 496) dL_law_496 ?_
  refine pw_iadd (pc := 497) dL_law_497 ?_
  refine pw_sld (pc := 498) dL_law_498 hS hL (by omega) (by omega) ?_
  obtain ⟨Q1, P1, K1⟩ := pair_worth hC hM I0 (sv_ xs (i + 1)) (sv_ xs (i + 2)) (sv_ xs (i + 3)) sv_r sv_r sv_r
  refine pw_callV (c := 11) (o := 0) (As := [ii_ (sv_ xs (i + 1)), ii_ (sv_ xs (i + 2)), ii_ (sv_ xs (i + 3))]) (rest := []) (pc := 499) dL_law_499 P1 lL_63 mX11_worth vX11_worth (hC 0 (by decide)) (show kd_ 0 = 21 by decide +kernel) rfl rfl rfl (by decide) ⟨by show _ ≤ 601024; omega, by show _ ≤ 7293033; omega⟩ (Nat.le_of_ble_eq_true rfl) (k_i (fun z1 g1 y1 q1 => ?_))
  obtain ⟨Q2, P2, K2⟩ := K1 z1 g1 q1
  refine pw_aload_n (z := mo_) (pc := 502) dL_law_502 rfl rfl ?_
  refine pw_aloadQ_n (q := sb) (pc := 503) dL_law_503 rfl rfl ?_
  refine pw_iload (z := i) (pc := 504) dL_law_504 rfl ?_
  refine pw_iconst (pc := 506) dL_law_506 ?_
  refine pw_iadd (pc := 507) dL_law_507 ?_
  refine pw_sld (pc := 508) dL_law_508 hS hL (by omega) (by omega) ?_
  refine pw_aloadQ_n (q := sb) (pc := 509) dL_law_509 rfl rfl ?_
  refine pw_iload (z := i) (pc := 510) dL_law_510 rfl ?_
  refine pw_iconst (pc := 512) dL_law_512 ?_
  refine pw_iadd (pc := 513) dL_law_513 ?_
  refine pw_sld (pc := 514) dL_law_514 hS hL (by omega) (by omega) ?_
  refine pw_aloadQ_n (q := sb) (pc := 515) dL_law_515 rfl rfl ?_
  refine pw_iload (z := i) (pc := 516) dL_law_516 rfl ?_
  refine pw_iconst (pc := 518) dL_law_518 ?_
  refine pw_iadd (pc := 519) dL_law_519 ?_
  refine pw_sld (pc := 520) dL_law_520 hS hL (by omega) (by omega) ?_
  refine pw_callV (c := 12) (o := mo_) (As := [ii_ (sv_ xs (i + 1)), ii_ (sv_ xs (i + 2)), ii_ (sv_ xs (i + 3))]) (rest := [ii_ z1]) (pc := 521) dL_law_521 P2 lL_67 mX12_worth vX12_worth (im_mo_ hM) k_mo_ rfl rfl rfl (by decide) ⟨by show _ ≤ 601024; omega, by show _ ≤ 7293033; omega⟩ (Nat.le_of_ble_eq_true rfl) (k_i (fun z2 g2 y2 q2 => ?_))
  obtain ⟨e12, I2⟩ := K2 z2 g2 q2
  subst e12
  refine pw_icmp_eq (t := 1195) (pc := 524) dL_law_524 (by decide) y1 y1 (fun _ => ?_) (fun c => absurd rfl c)
  exact J cs ss l5 l6 _ I2 (by omega) (by omega)

set_option maxHeartbeats 4000000 in
set_option maxRecDepth 100000 in
theorem law_c8 {G : GT_} (hC : okC_ G) (hM : okM_ G) (hO : 2000 ∈ gi_ G) (hX : gX_ G) {sb L : Nat} {xs : Nat → Int32} (hS : gS_ G sb L xs) (hL : L ≤ 3584) {i : Int} {cs ss : Nat} {l5 l6 : Option Value} {h : PH_} (I0 : INVE_ h) (hi : 0 ≤ i ∧ i ≤ (L : Int) - 7) (hcs : cs + 1 ≤ 601024 ∧ ss + 6 ≤ 7293033) (J : ∀ (cs1 ss1 : Nat) (l5 l6 : Option Value) (h1 : PH_), INVE_ h1 → cs1 ≤ cs + 1 → ss1 ≤ ss + 6 → PW G RL cL_law 7 (some .boolean) room_1 cs1 ss1 (zl_ G) 1195 [some (.ref sb), some (rr_ G 0), some (rr_ G mo_), some (rr_ G 2000), some (ii_ i), l5, l6] [] h1) : PW G RL cL_law 7 (some .boolean) room_1 cs ss (zl_ G) 529 [some (.ref sb), some (rr_ G 0), some (rr_ G mo_), some (rr_ G 2000), some (ii_ i), l5, l6] [] h := by
  refine pw_aload_n (z := 0) (pc := 529) dL_law_529 rfl rfl ?_
  obtain ⟨Q1, P1, K1⟩ := pair_plans hC hM I0  
  refine pw_callV (c := 11) (o := 0) (As := []) (rest := []) (pc := 530) dL_law_530 P1 lL_68 mX11_plans vX11_plans (hC 0 (by decide)) (show kd_ 0 = 21 by decide +kernel) rfl rfl rfl (by decide) ⟨by show _ ≤ 601024; omega, by show _ ≤ 7293033; omega⟩ (Nat.le_of_ble_eq_true rfl) (k_i (fun z1 g1 y1 q1 => ?_))
  obtain ⟨Q2, P2, K2⟩ := K1 z1 g1 q1
  refine pw_aload_n (z := mo_) (pc := 533) dL_law_533 rfl rfl ?_
  refine pw_callV (c := 12) (o := mo_) (As := []) (rest := [ii_ z1]) (pc := 534) dL_law_534 P2 lL_71 mX12_plans vX12_plans (im_mo_ hM) k_mo_ rfl rfl rfl (by decide) ⟨by show _ ≤ 601024; omega, by show _ ≤ 7293033; omega⟩ (Nat.le_of_ble_eq_true rfl) (k_i (fun z2 g2 y2 q2 => ?_))
  obtain ⟨e12, I2⟩ := K2 z2 g2 q2
  subst e12
  refine pw_icmp_eq (t := 1195) (pc := 537) dL_law_537 (by decide) y1 y1 (fun _ => ?_) (fun c => absurd rfl c)
  exact J cs ss l5 l6 _ I2 (by omega) (by omega)

set_option maxHeartbeats 4000000 in
set_option maxRecDepth 100000 in
theorem law_c9 {G : GT_} (hC : okC_ G) (hM : okM_ G) (hO : 2000 ∈ gi_ G) (hX : gX_ G) {sb L : Nat} {xs : Nat → Int32} (hS : gS_ G sb L xs) (hL : L ≤ 3584) {i : Int} {cs ss : Nat} {l5 l6 : Option Value} {h : PH_} (I0 : INVE_ h) (hi : 0 ≤ i ∧ i ≤ (L : Int) - 7) (hcs : cs + 1 ≤ 601024 ∧ ss + 6 ≤ 7293033) (J : ∀ (cs1 ss1 : Nat) (l5 l6 : Option Value) (h1 : PH_), INVE_ h1 → cs1 ≤ cs + 1 → ss1 ≤ ss + 6 → PW G RL cL_law 7 (some .boolean) room_1 cs1 ss1 (zl_ G) 1195 [some (.ref sb), some (rr_ G 0), some (rr_ G mo_), some (rr_ G 2000), some (ii_ i), l5, l6] [] h1) : PW G RL cL_law 7 (some .boolean) room_1 cs ss (zl_ G) 542 [some (.ref sb), some (rr_ G 0), some (rr_ G mo_), some (rr_ G 2000), some (ii_ i), l5, l6] [] h := by
  refine pw_aload_n (z := 0) (pc := 542) dL_law_542 rfl rfl ?_
  refine pw_aloadQ_n (q := sb) (pc := 543) dL_law_543 rfl rfl ?_
  refine pw_iload (z := i) (pc := 544) dL_law_544 rfl ?_
  refine pw_iconst (pc := 546) dL_law_546 ?_
  refine pw_iadd (pc := 547) dL_law_547 ?_
  refine pw_sld (pc := 548) dL_law_548 hS hL (by omega) (by omega) ?_
  refine pw_aloadQ_n (q := sb) (pc := 549) dL_law_549 rfl rfl ?_
  refine pw_iload (z := i) (pc := 550) dL_law_550 rfl ?_
  refine pw_iconst (pc := 552) dL_law_552 ?_
  refine pw_iadd (pc := 553) dL_law_553 ?_
  refine pw_sld (pc := 554) dL_law_554 hS hL (by omega) (by omega) ?_
  obtain ⟨Q1, P1, K1⟩ := pair_sit hC hM I0 (sv_ xs (i + 1)) (sv_ xs (i + 2)) sv_r sv_r
  refine pw_callV (c := 11) (o := 0) (As := [ii_ (sv_ xs (i + 1)), ii_ (sv_ xs (i + 2))]) (rest := []) (pc := 555) dL_law_555 P1 lL_72 mX11_sit vX11_sit (hC 0 (by decide)) (show kd_ 0 = 21 by decide +kernel) rfl rfl rfl (by decide) ⟨by show _ ≤ 601024; omega, by show _ ≤ 7293033; omega⟩ (Nat.le_of_ble_eq_true rfl) (k_i (fun z1 g1 y1 q1 => ?_))
  obtain ⟨Q2, P2, K2⟩ := K1 z1 g1 q1
  refine pw_aload_n (z := mo_) (pc := 558) dL_law_558 rfl rfl ?_
  refine pw_aloadQ_n (q := sb) (pc := 559) dL_law_559 rfl rfl ?_
  refine pw_iload (z := i) (pc := 560) dL_law_560 rfl ?_
  refine pw_iconst (pc := 562) dL_law_562 ?_
  refine pw_iadd (pc := 563) dL_law_563 ?_
  refine pw_sld (pc := 564) dL_law_564 hS hL (by omega) (by omega) ?_
  refine pw_aloadQ_n (q := sb) (pc := 565) dL_law_565 rfl rfl ?_
  refine pw_iload (z := i) (pc := 566) dL_law_566 rfl ?_
  refine pw_iconst (pc := 568) dL_law_568 ?_
  refine pw_iadd (pc := 569) dL_law_569 ?_
  refine pw_sld (pc := 570) dL_law_570 hS hL (by omega) (by omega) ?_
  refine pw_callV (c := 12) (o := mo_) (As := [ii_ (sv_ xs (i + 1)), ii_ (sv_ xs (i + 2))]) (rest := [ii_ z1]) (pc := 571) dL_law_571 P2 lL_75 mX12_sit vX12_sit (im_mo_ hM) k_mo_ rfl rfl rfl (by decide) ⟨by show _ ≤ 601024; omega, by show _ ≤ 7293033; omega⟩ (Nat.le_of_ble_eq_true rfl) (k_i (fun z2 g2 y2 q2 => ?_))
  obtain ⟨e12, I2⟩ := K2 z2 g2 q2
  subst e12
  refine pw_icmp_eq (t := 1195) (pc := 574) dL_law_574 (by decide) y1 y1 (fun _ => ?_) (fun c => absurd rfl c)
  exact J cs ss l5 l6 _ I2 (by omega) (by omega)

set_option maxHeartbeats 4000000 in
set_option maxRecDepth 100000 in
theorem law_c10 {G : GT_} (hC : okC_ G) (hM : okM_ G) (hO : 2000 ∈ gi_ G) (hX : gX_ G) {sb L : Nat} {xs : Nat → Int32} (hS : gS_ G sb L xs) (hL : L ≤ 3584) {i : Int} {cs ss : Nat} {l5 l6 : Option Value} {h : PH_} (I0 : INVE_ h) (hi : 0 ≤ i ∧ i ≤ (L : Int) - 7) (hcs : cs + 1 ≤ 601024 ∧ ss + 6 ≤ 7293033) (J : ∀ (cs1 ss1 : Nat) (l5 l6 : Option Value) (h1 : PH_), INVE_ h1 → cs1 ≤ cs + 1 → ss1 ≤ ss + 6 → PW G RL cL_law 7 (some .boolean) room_1 cs1 ss1 (zl_ G) 1195 [some (.ref sb), some (rr_ G 0), some (rr_ G mo_), some (rr_ G 2000), some (ii_ i), l5, l6] [] h1) : PW G RL cL_law 7 (some .boolean) room_1 cs ss (zl_ G) 579 [some (.ref sb), some (rr_ G 0), some (rr_ G mo_), some (rr_ G 2000), some (ii_ i), l5, l6] [] h := by
  refine pw_aload_n (z := 0) (pc := 579) dL_law_579 rfl rfl ?_
  obtain ⟨Q1, P1, K1⟩ := pair_drive hC hM I0  
  refine pw_callV (c := 11) (o := 0) (As := []) (rest := []) (pc := 580) dL_law_580 P1 lL_76 mX11_drive vX11_drive (hC 0 (by decide)) (show kd_ 0 = 21 by decide +kernel) rfl rfl rfl (by decide) ⟨by show _ ≤ 601024; omega, by show _ ≤ 7293033; omega⟩ (Nat.le_of_ble_eq_true rfl) (k_i (fun z1 g1 y1 q1 => ?_))
  obtain ⟨Q2, P2, K2⟩ := K1 z1 g1 q1
  refine pw_aload_n (z := mo_) (pc := 583) dL_law_583 rfl rfl ?_
  refine pw_callV (c := 12) (o := mo_) (As := []) (rest := [ii_ z1]) (pc := 584) dL_law_584 P2 lL_79 mX12_drive vX12_drive (im_mo_ hM) k_mo_ rfl rfl rfl (by decide) ⟨by show _ ≤ 601024; omega, by show _ ≤ 7293033; omega⟩ (Nat.le_of_ble_eq_true rfl) (k_i (fun z2 g2 y2 q2 => ?_))
  obtain ⟨e12, I2⟩ := K2 z2 g2 q2
  subst e12
  refine pw_icmp_eq (t := 1195) (pc := 587) dL_law_587 (by decide) y1 y1 (fun _ => ?_) (fun c => absurd rfl c)
  exact J cs ss l5 l6 _ I2 (by omega) (by omega)

set_option maxHeartbeats 4000000 in
set_option maxRecDepth 100000 in
theorem law_c11 {G : GT_} (hC : okC_ G) (hM : okM_ G) (hO : 2000 ∈ gi_ G) (hX : gX_ G) {sb L : Nat} {xs : Nat → Int32} (hS : gS_ G sb L xs) (hL : L ≤ 3584) {i : Int} {cs ss : Nat} {l5 l6 : Option Value} {h : PH_} (I0 : INVE_ h) (hi : 0 ≤ i ∧ i ≤ (L : Int) - 7) (hcs : cs + 1 ≤ 601024 ∧ ss + 6 ≤ 7293033) (J : ∀ (cs1 ss1 : Nat) (l5 l6 : Option Value) (h1 : PH_), INVE_ h1 → cs1 ≤ cs + 1 → ss1 ≤ ss + 6 → PW G RL cL_law 7 (some .boolean) room_1 cs1 ss1 (zl_ G) 1195 [some (.ref sb), some (rr_ G 0), some (rr_ G mo_), some (rr_ G 2000), some (ii_ i), l5, l6] [] h1) : PW G RL cL_law 7 (some .boolean) room_1 cs ss (zl_ G) 592 [some (.ref sb), some (rr_ G 0), some (rr_ G mo_), some (rr_ G 2000), some (ii_ i), l5, l6] [] h := by
  refine pw_aload_n (z := 0) (pc := 592) dL_law_592 rfl rfl ?_
  obtain ⟨Q1, P1, K1⟩ := pair_undo hC hM I0  
  refine pw_callV (c := 11) (o := 0) (As := []) (rest := []) (pc := 593) dL_law_593 P1 lL_80 mX11_undo vX11_undo (hC 0 (by decide)) (show kd_ 0 = 21 by decide +kernel) rfl rfl rfl (by decide) ⟨by show _ ≤ 601024; omega, by show _ ≤ 7293033; omega⟩ (Nat.le_of_ble_eq_true rfl) (k_i (fun z1 g1 y1 q1 => ?_))
  obtain ⟨Q2, P2, K2⟩ := K1 z1 g1 q1
  refine pw_aload_n (z := mo_) (pc := 596) dL_law_596 rfl rfl ?_
  refine pw_callV (c := 12) (o := mo_) (As := []) (rest := [ii_ z1]) (pc := 597) dL_law_597 P2 lL_84 mX12_undo vX12_undo (im_mo_ hM) k_mo_ rfl rfl rfl (by decide) ⟨by show _ ≤ 601024; omega, by show _ ≤ 7293033; omega⟩ (Nat.le_of_ble_eq_true rfl) (k_i (fun z2 g2 y2 q2 => ?_))
  obtain ⟨e12, I2⟩ := K2 z2 g2 q2
  subst e12
  refine pw_icmp_eq (t := 1195) (pc := 600) dL_law_600 (by decide) y1 y1 (fun _ => ?_) (fun c => absurd rfl c)
  exact J cs ss l5 l6 _ I2 (by omega) (by omega)

set_option maxHeartbeats 4000000 in
set_option maxRecDepth 100000 in
theorem law_c12 {G : GT_} (hC : okC_ G) (hM : okM_ G) (hO : 2000 ∈ gi_ G) (hX : gX_ G) {sb L : Nat} {xs : Nat → Int32} (hS : gS_ G sb L xs) (hL : L ≤ 3584) {i : Int} {cs ss : Nat} {l5 l6 : Option Value} {h : PH_} (I0 : INVE_ h) (hi : 0 ≤ i ∧ i ≤ (L : Int) - 7) (hcs : cs + 1 ≤ 601024 ∧ ss + 6 ≤ 7293033) (J : ∀ (cs1 ss1 : Nat) (l5 l6 : Option Value) (h1 : PH_), INVE_ h1 → cs1 ≤ cs + 1 → ss1 ≤ ss + 6 → PW G RL cL_law 7 (some .boolean) room_1 cs1 ss1 (zl_ G) 1195 [some (.ref sb), some (rr_ G 0), some (rr_ G mo_), some (rr_ G 2000), some (ii_ i), l5, l6] [] h1) : PW G RL cL_law 7 (some .boolean) room_1 cs ss (zl_ G) 605 [some (.ref sb), some (rr_ G 0), some (rr_ G mo_), some (rr_ G 2000), some (ii_ i), l5, l6] [] h := by
  refine pw_aload_n (z := 0) (pc := 605) dL_law_605 rfl rfl ?_
  refine pw_aloadQ_n (q := sb) (pc := 606) dL_law_606 rfl rfl ?_
  refine pw_iload (z := i) (pc := 607) dL_law_607 rfl ?_
  refine pw_iconst (pc := 609) dL_law_609 ?_
  refine pw_iadd (pc := 610) dL_law_610 ?_
  refine pw_sld (pc := 611) dL_law_611 hS hL (by omega) (by omega) ?_
  obtain ⟨Q1, P1, K1⟩ := pair_judged hC hM I0 (sv_ xs (i + 1)) sv_r
  refine pw_callV (c := 11) (o := 0) (As := [ii_ (sv_ xs (i + 1))]) (rest := []) (pc := 612) dL_law_612 P1 lL_85 mX11_judged vX11_judged (hC 0 (by decide)) (show kd_ 0 = 21 by decide +kernel) rfl rfl rfl (by decide) ⟨by show _ ≤ 601024; omega, by show _ ≤ 7293033; omega⟩ (Nat.le_of_ble_eq_true rfl) (k_i (fun z1 g1 y1 q1 => ?_))
  obtain ⟨Q2, P2, K2⟩ := K1 z1 g1 q1
  refine pw_aload_n (z := mo_) (pc := 615) dL_law_615 rfl rfl ?_
  refine pw_aloadQ_n (q := sb) (pc := 616) dL_law_616 rfl rfl ?_
  refine pw_iload (z := i) (pc := 617) dL_law_617 rfl ?_
  refine pw_iconst (pc := 619) dL_law_619 ?_
  refine pw_iadd (pc := 620) dL_law_620 ?_
  refine pw_sld (pc := 621) dL_law_621 hS hL (by omega) (by omega) ?_
  refine pw_callV (c := 12) (o := mo_) (As := [ii_ (sv_ xs (i + 1))]) (rest := [ii_ z1]) (pc := 622) dL_law_622 P2 lL_88 mX12_judged vX12_judged (im_mo_ hM) k_mo_ rfl rfl rfl (by decide) ⟨by show _ ≤ 601024; omega, by show _ ≤ 7293033; omega⟩ (Nat.le_of_ble_eq_true rfl) (k_i (fun z2 g2 y2 q2 => ?_))
  obtain ⟨e12, I2⟩ := K2 z2 g2 q2
  subst e12
  refine pw_icmp_eq (t := 1195) (pc := 625) dL_law_625 (by decide) y1 y1 (fun _ => ?_) (fun c => absurd rfl c)
  exact J cs ss l5 l6 _ I2 (by omega) (by omega)

set_option maxHeartbeats 4000000 in
set_option maxRecDepth 100000 in
theorem law_c13 {G : GT_} (hC : okC_ G) (hM : okM_ G) (hO : 2000 ∈ gi_ G) (hX : gX_ G) {sb L : Nat} {xs : Nat → Int32} (hS : gS_ G sb L xs) (hL : L ≤ 3584) {i : Int} {cs ss : Nat} {l5 l6 : Option Value} {h : PH_} (I0 : INVE_ h) (hi : 0 ≤ i ∧ i ≤ (L : Int) - 7) (hcs : cs + 1 ≤ 601024 ∧ ss + 6 ≤ 7293033) (J : ∀ (cs1 ss1 : Nat) (l5 l6 : Option Value) (h1 : PH_), INVE_ h1 → cs1 ≤ cs + 1 → ss1 ≤ ss + 6 → PW G RL cL_law 7 (some .boolean) room_1 cs1 ss1 (zl_ G) 1195 [some (.ref sb), some (rr_ G 0), some (rr_ G mo_), some (rr_ G 2000), some (ii_ i), l5, l6] [] h1) : PW G RL cL_law 7 (some .boolean) room_1 cs ss (zl_ G) 630 [some (.ref sb), some (rr_ G 0), some (rr_ G mo_), some (rr_ G 2000), some (ii_ i), l5, l6] [] h := by
  refine pw_aload_n (z := 0) (pc := 630) dL_law_630 rfl rfl ?_
  refine pw_aloadQ_n (q := sb) (pc := 631) dL_law_631 rfl rfl ?_
  refine pw_iload (z := i) (pc := 632) dL_law_632 rfl ?_
  refine pw_iconst (pc := 634) dL_law_634 ?_
  refine pw_iadd (pc := 635) dL_law_635 ?_
  refine pw_sld (pc := 636) dL_law_636 hS hL (by omega) (by omega) ?_
  refine pw_aloadQ_n (q := sb) (pc := 637) dL_law_637 rfl rfl ?_
  refine pw_iload (z := i) (pc := 638) dL_law_638 rfl ?_
  refine pw_iconst (pc := 640) dL_law_640 ?_
  refine pw_iadd (pc := 641) dL_law_641 ?_
  refine pw_sld (pc := 642) dL_law_642 hS hL (by omega) (by omega) ?_
  obtain ⟨Q1, P1, K1⟩ := pair_evenest hC hM I0 (sv_ xs (i + 1)) (sv_ xs (i + 2)) sv_r sv_r
  refine pw_callV (c := 11) (o := 0) (As := [ii_ (sv_ xs (i + 1)), ii_ (sv_ xs (i + 2))]) (rest := []) (pc := 643) dL_law_643 P1 lL_89 mX11_evenest vX11_evenest (hC 0 (by decide)) (show kd_ 0 = 21 by decide +kernel) rfl rfl rfl (by decide) ⟨by show _ ≤ 601024; omega, by show _ ≤ 7293033; omega⟩ (Nat.le_of_ble_eq_true rfl) (k_i (fun z1 g1 y1 q1 => ?_))
  obtain ⟨Q2, P2, K2⟩ := K1 z1 g1 q1
  refine pw_aload_n (z := mo_) (pc := 646) dL_law_646 rfl rfl ?_
  refine pw_aloadQ_n (q := sb) (pc := 647) dL_law_647 rfl rfl ?_
  refine pw_iload (z := i) (pc := 648) dL_law_648 rfl ?_
  refine pw_iconst (pc := 650) dL_law_650 ?_
  refine pw_iadd (pc := 651) dL_law_651 ?_
  refine pw_sld (pc := 652) dL_law_652 hS hL (by omega) (by omega) ?_
  refine pw_aloadQ_n (q := sb) (pc := 653) dL_law_653 rfl rfl ?_
  refine pw_iload (z := i) (pc := 654) dL_law_654 rfl ?_
  refine pw_iconst (pc := 656) dL_law_656 ?_
  refine pw_iadd (pc := 657) dL_law_657 ?_
  refine pw_sld (pc := 658) dL_law_658 hS hL (by omega) (by omega) ?_
  refine pw_callV (c := 12) (o := mo_) (As := [ii_ (sv_ xs (i + 1)), ii_ (sv_ xs (i + 2))]) (rest := [ii_ z1]) (pc := 659) dL_law_659 P2 lL_92 mX12_evenest vX12_evenest (im_mo_ hM) k_mo_ rfl rfl rfl (by decide) ⟨by show _ ≤ 601024; omega, by show _ ≤ 7293033; omega⟩ (Nat.le_of_ble_eq_true rfl) (k_i (fun z2 g2 y2 q2 => ?_))
  obtain ⟨e12, I2⟩ := K2 z2 g2 q2
  subst e12
  refine pw_icmp_eq (t := 1195) (pc := 662) dL_law_662 (by decide) y1 y1 (fun _ => ?_) (fun c => absurd rfl c)
  exact J cs ss l5 l6 _ I2 (by omega) (by omega)

set_option maxHeartbeats 4000000 in
set_option maxRecDepth 100000 in
theorem law_c14 {G : GT_} (hC : okC_ G) (hM : okM_ G) (hO : 2000 ∈ gi_ G) (hX : gX_ G) {sb L : Nat} {xs : Nat → Int32} (hS : gS_ G sb L xs) (hL : L ≤ 3584) {i : Int} {cs ss : Nat} {l5 l6 : Option Value} {h : PH_} (I0 : INVE_ h) (hi : 0 ≤ i ∧ i ≤ (L : Int) - 7) (hcs : cs + 1 ≤ 601024 ∧ ss + 6 ≤ 7293033) (J : ∀ (cs1 ss1 : Nat) (l5 l6 : Option Value) (h1 : PH_), INVE_ h1 → cs1 ≤ cs + 1 → ss1 ≤ ss + 6 → PW G RL cL_law 7 (some .boolean) room_1 cs1 ss1 (zl_ G) 1195 [some (.ref sb), some (rr_ G 0), some (rr_ G mo_), some (rr_ G 2000), some (ii_ i), l5, l6] [] h1) : PW G RL cL_law 7 (some .boolean) room_1 cs ss (zl_ G) 667 [some (.ref sb), some (rr_ G 0), some (rr_ G mo_), some (rr_ G 2000), some (ii_ i), l5, l6] [] h := by
  refine pw_aload_n (z := 0) (pc := 667) dL_law_667 rfl rfl ?_
  refine pw_aloadQ_n (q := sb) (pc := 668) dL_law_668 rfl rfl ?_
  refine pw_iload (z := i) (pc := 669) dL_law_669 rfl ?_
  refine pw_iconst (pc := 671) dL_law_671 ?_
  refine pw_iadd (pc := 672) dL_law_672 ?_
  refine pw_sld (pc := 673) dL_law_673 hS hL (by omega) (by omega) ?_
  refine pw_aload_n (z := 2000) (pc := 674) dL_law_674 rfl rfl ?_
  obtain ⟨Q1, P1, K1⟩ := pair_most hC hM hO hX I0 (sv_ xs (i + 1)) sv_r
  refine pw_callH (n := 3) (As := [rr_ G 0, ii_ (sv_ xs (i + 1)), rr_ G 2000]) (rest := []) (pc := 675) dL_law_675 P1 lL_93 cwh_most ini_L sth_most (by decide +kernel) rfl rfl (by decide) ⟨by show _ ≤ 601024; omega, by show _ ≤ 7293033; omega⟩ (Nat.le_of_ble_eq_true rfl) (k_i (fun z1 g1 y1 q1 => ?_))
  obtain ⟨Q2, P2, K2⟩ := K1 z1 g1 q1
  refine pw_istore (lv1 := [some (.ref sb), some (rr_ G 0), some (rr_ G mo_), some (rr_ G 2000), some (ii_ i), (some (ii_ z1)), l6]) (pc := 678) dL_law_678 (by decide) rfl rfl ?_
  refine pw_aload_n (z := mo_) (pc := 680) dL_law_680 rfl rfl ?_
  refine pw_aloadQ_n (q := sb) (pc := 681) dL_law_681 rfl rfl ?_
  refine pw_iload (z := i) (pc := 682) dL_law_682 rfl ?_
  refine pw_iconst (pc := 684) dL_law_684 ?_
  refine pw_iadd (pc := 685) dL_law_685 ?_
  refine pw_sld (pc := 686) dL_law_686 hS hL (by omega) (by omega) ?_
  refine pw_callV (c := 12) (o := mo_) (As := [ii_ (sv_ xs (i + 1))]) (rest := []) (pc := 687) dL_law_687 P2 lL_96 mX12_most vX12_most (im_mo_ hM) k_mo_ rfl rfl rfl (by decide) ⟨by show _ ≤ 601024; omega, by show _ ≤ 7293033; omega⟩ (Nat.le_of_ble_eq_true rfl) (k_i (fun z2 g2 y2 q2 => ?_))
  obtain ⟨e1, e2, I2⟩ := K2 z2 g2 q2
  refine pw_istore (lv1 := [some (.ref sb), some (rr_ G 0), some (rr_ G mo_), some (rr_ G 2000), some (ii_ i), (some (ii_ z1)), (some (ii_ z2))]) (pc := 690) dL_law_690 (by decide) rfl rfl ?_
  refine pw_aload_n (z := mo_) (pc := 692) dL_law_692 rfl rfl ?_
  refine pw_callV (c := 12) (o := mo_) (As := []) (rest := []) (pc := 693) dL_law_693 (c_thrown hM g2) lL_52 mX12_thrown vX12_thrown (im_mo_ hM) k_mo_ rfl rfl rfl (by decide) ⟨by show _ ≤ 601024; omega, by show _ ≤ 7293033; omega⟩ (Nat.le_of_ble_eq_true rfl) (k_i (fun z3 g3 y3 q3 => ?_))
  obtain ⟨rfl, e3⟩ := q3
  refine pw_iload (z := z1) (pc := 696) dL_law_696 rfl ?_
  refine pw_icmp_eq (t := 703) (pc := 698) dL_law_698 (by decide) y3 y1 (fun _ => ?_) (fun c => absurd (e3.trans e1) c)
  refine pw_iload (z := z1) (pc := 703) dL_law_703 rfl ?_
  refine pw_if_ne (t := 720) (pc := 705) dL_law_705 (by decide) y1 (fun cz => ?_) (fun cz => ?_)
  · refine pw_goto (t := 1195) (pc := 720) dL_law_720 (by decide) ?_
    exact J (cs + 1) (ss + 6) (some (ii_ z1)) (some (ii_ z2)) _ I2 (by omega) (by omega)
  · have e0 : g2 2000 0 = z2 := by rcases e2 with u | u; exact u.2; exfalso; omega
    refine pw_aload_n (z := 2000) (pc := 708) dL_law_708 rfl rfl ?_
    refine pw_iconst (pc := 709) dL_law_709 ?_
    refine pw_lald (pc := 710) dL_law_710 hO (by decide +kernel) 1 (by decide +kernel) (by decide) (by decide) (by constructor <;> decide) (fun x0 => ?_)
    refine pw_iload (z := z2) (pc := 711) dL_law_711 rfl ?_
    refine pw_i2l (pc := 713) dL_law_713 y2 ?_
    refine pw_lcmp (pc := 714) dL_law_714 x0 (by have u := y2.1; have v := y2.2; constructor <;> omega) ?_
    refine pw_if_eq (t := 720) (pc := 715) dL_law_715 (by decide) (by rw [e0, if_neg (Int.lt_irrefl _), if_pos rfl]; constructor <;> decide) (fun _ => ?_) (fun c => absurd (by rw [e0, if_neg (Int.lt_irrefl _), if_pos rfl]) c)
    refine pw_goto (t := 1195) (pc := 720) dL_law_720 (by decide) ?_
    exact J (cs + 1) (ss + 6) (some (ii_ z1)) (some (ii_ z2)) _ I2 (by omega) (by omega)

set_option maxHeartbeats 4000000 in
set_option maxRecDepth 100000 in
theorem law_c15 {G : GT_} (hC : okC_ G) (hM : okM_ G) (hO : 2000 ∈ gi_ G) (hX : gX_ G) {sb L : Nat} {xs : Nat → Int32} (hS : gS_ G sb L xs) (hL : L ≤ 3584) {i : Int} {cs ss : Nat} {l5 l6 : Option Value} {h : PH_} (I0 : INVE_ h) (hi : 0 ≤ i ∧ i ≤ (L : Int) - 7) (hcs : cs + 1 ≤ 601024 ∧ ss + 6 ≤ 7293033) (J : ∀ (cs1 ss1 : Nat) (l5 l6 : Option Value) (h1 : PH_), INVE_ h1 → cs1 ≤ cs + 1 → ss1 ≤ ss + 6 → PW G RL cL_law 7 (some .boolean) room_1 cs1 ss1 (zl_ G) 1195 [some (.ref sb), some (rr_ G 0), some (rr_ G mo_), some (rr_ G 2000), some (ii_ i), l5, l6] [] h1) : PW G RL cL_law 7 (some .boolean) room_1 cs ss (zl_ G) 723 [some (.ref sb), some (rr_ G 0), some (rr_ G mo_), some (rr_ G 2000), some (ii_ i), l5, l6] [] h := by
  refine pw_aload_n (z := 0) (pc := 723) dL_law_723 rfl rfl ?_
  refine pw_aload_n (z := 2000) (pc := 724) dL_law_724 rfl rfl ?_
  obtain ⟨Q1, P1, K1⟩ := pair_worst hC hM hO hX I0  
  refine pw_callH (n := 2) (As := [rr_ G 0, rr_ G 2000]) (rest := []) (pc := 725) dL_law_725 P1 lL_97 cwh_worst ini_L sth_worst (by decide +kernel) rfl rfl (by decide) ⟨by show _ ≤ 601024; omega, by show _ ≤ 7293033; omega⟩ (Nat.le_of_ble_eq_true rfl) (k_i (fun z1 g1 y1 q1 => ?_))
  obtain ⟨Q2, P2, K2⟩ := K1 z1 g1 q1
  refine pw_istore (lv1 := [some (.ref sb), some (rr_ G 0), some (rr_ G mo_), some (rr_ G 2000), some (ii_ i), (some (ii_ z1)), l6]) (pc := 728) dL_law_728 (by decide) rfl rfl ?_
  refine pw_aload_n (z := mo_) (pc := 730) dL_law_730 rfl rfl ?_
  refine pw_callV (c := 12) (o := mo_) (As := []) (rest := []) (pc := 731) dL_law_731 P2 lL_100 mX12_worst vX12_worst (im_mo_ hM) k_mo_ rfl rfl rfl (by decide) ⟨by show _ ≤ 601024; omega, by show _ ≤ 7293033; omega⟩ (Nat.le_of_ble_eq_true rfl) (k_i (fun z2 g2 y2 q2 => ?_))
  obtain ⟨e1, e2, I2⟩ := K2 z2 g2 q2
  refine pw_istore (lv1 := [some (.ref sb), some (rr_ G 0), some (rr_ G mo_), some (rr_ G 2000), some (ii_ i), (some (ii_ z1)), (some (ii_ z2))]) (pc := 734) dL_law_734 (by decide) rfl rfl ?_
  refine pw_aload_n (z := mo_) (pc := 736) dL_law_736 rfl rfl ?_
  refine pw_callV (c := 12) (o := mo_) (As := []) (rest := []) (pc := 737) dL_law_737 (c_thrown hM g2) lL_52 mX12_thrown vX12_thrown (im_mo_ hM) k_mo_ rfl rfl rfl (by decide) ⟨by show _ ≤ 601024; omega, by show _ ≤ 7293033; omega⟩ (Nat.le_of_ble_eq_true rfl) (k_i (fun z3 g3 y3 q3 => ?_))
  obtain ⟨rfl, e3⟩ := q3
  refine pw_iload (z := z1) (pc := 740) dL_law_740 rfl ?_
  refine pw_icmp_eq (t := 747) (pc := 742) dL_law_742 (by decide) y3 y1 (fun _ => ?_) (fun c => absurd (e3.trans e1) c)
  refine pw_iload (z := z1) (pc := 747) dL_law_747 rfl ?_
  refine pw_if_ne (t := 764) (pc := 749) dL_law_749 (by decide) y1 (fun cz => ?_) (fun cz => ?_)
  · refine pw_goto (t := 1195) (pc := 764) dL_law_764 (by decide) ?_
    exact J (cs + 1) (ss + 6) (some (ii_ z1)) (some (ii_ z2)) _ I2 (by omega) (by omega)
  · have e0 : g2 2000 0 = z2 := by rcases e2 with u | u; exact u.2; exfalso; omega
    refine pw_aload_n (z := 2000) (pc := 752) dL_law_752 rfl rfl ?_
    refine pw_iconst (pc := 753) dL_law_753 ?_
    refine pw_lald (pc := 754) dL_law_754 hO (by decide +kernel) 1 (by decide +kernel) (by decide) (by decide) (by constructor <;> decide) (fun x0 => ?_)
    refine pw_iload (z := z2) (pc := 755) dL_law_755 rfl ?_
    refine pw_i2l (pc := 757) dL_law_757 y2 ?_
    refine pw_lcmp (pc := 758) dL_law_758 x0 (by have u := y2.1; have v := y2.2; constructor <;> omega) ?_
    refine pw_if_eq (t := 764) (pc := 759) dL_law_759 (by decide) (by rw [e0, if_neg (Int.lt_irrefl _), if_pos rfl]; constructor <;> decide) (fun _ => ?_) (fun c => absurd (by rw [e0, if_neg (Int.lt_irrefl _), if_pos rfl]) c)
    refine pw_goto (t := 1195) (pc := 764) dL_law_764 (by decide) ?_
    exact J (cs + 1) (ss + 6) (some (ii_ z1)) (some (ii_ z2)) _ I2 (by omega) (by omega)

set_option maxHeartbeats 4000000 in
set_option maxRecDepth 100000 in
theorem law_c16 {G : GT_} (hC : okC_ G) (hM : okM_ G) (hO : 2000 ∈ gi_ G) (hX : gX_ G) {sb L : Nat} {xs : Nat → Int32} (hS : gS_ G sb L xs) (hL : L ≤ 3584) {i : Int} {cs ss : Nat} {l5 l6 : Option Value} {h : PH_} (I0 : INVE_ h) (hi : 0 ≤ i ∧ i ≤ (L : Int) - 7) (hcs : cs + 1 ≤ 601024 ∧ ss + 6 ≤ 7293033) (J : ∀ (cs1 ss1 : Nat) (l5 l6 : Option Value) (h1 : PH_), INVE_ h1 → cs1 ≤ cs + 1 → ss1 ≤ ss + 6 → PW G RL cL_law 7 (some .boolean) room_1 cs1 ss1 (zl_ G) 1195 [some (.ref sb), some (rr_ G 0), some (rr_ G mo_), some (rr_ G 2000), some (ii_ i), l5, l6] [] h1) : PW G RL cL_law 7 (some .boolean) room_1 cs ss (zl_ G) 767 [some (.ref sb), some (rr_ G 0), some (rr_ G mo_), some (rr_ G 2000), some (ii_ i), l5, l6] [] h := by
  refine pw_aload_n (z := 0) (pc := 767) dL_law_767 rfl rfl ?_
  obtain ⟨Q1, P1, K1⟩ := pair_after hC hM I0  
  refine pw_callV (c := 11) (o := 0) (As := []) (rest := []) (pc := 768) dL_law_768 P1 lL_101 mX11_after vX11_after (hC 0 (by decide)) (show kd_ 0 = 21 by decide +kernel) rfl rfl rfl (by decide) ⟨by show _ ≤ 601024; omega, by show _ ≤ 7293033; omega⟩ (Nat.le_of_ble_eq_true rfl) (k_i (fun z1 g1 y1 q1 => ?_))
  obtain ⟨Q2, P2, K2⟩ := K1 z1 g1 q1
  refine pw_aload_n (z := mo_) (pc := 771) dL_law_771 rfl rfl ?_
  refine pw_callV (c := 12) (o := mo_) (As := []) (rest := [ii_ z1]) (pc := 772) dL_law_772 P2 lL_104 mX12_after vX12_after (im_mo_ hM) k_mo_ rfl rfl rfl (by decide) ⟨by show _ ≤ 601024; omega, by show _ ≤ 7293033; omega⟩ (Nat.le_of_ble_eq_true rfl) (k_i (fun z2 g2 y2 q2 => ?_))
  obtain ⟨e12, I2⟩ := K2 z2 g2 q2
  subst e12
  refine pw_icmp_eq (t := 1195) (pc := 775) dL_law_775 (by decide) y1 y1 (fun _ => ?_) (fun c => absurd rfl c)
  exact J cs ss l5 l6 _ I2 (by omega) (by omega)

set_option maxHeartbeats 4000000 in
set_option maxRecDepth 100000 in
theorem law_c17 {G : GT_} (hC : okC_ G) (hM : okM_ G) (hO : 2000 ∈ gi_ G) (hX : gX_ G) {sb L : Nat} {xs : Nat → Int32} (hS : gS_ G sb L xs) (hL : L ≤ 3584) {i : Int} {cs ss : Nat} {l5 l6 : Option Value} {h : PH_} (I0 : INVE_ h) (hi : 0 ≤ i ∧ i ≤ (L : Int) - 7) (hcs : cs + 1 ≤ 601024 ∧ ss + 6 ≤ 7293033) (J : ∀ (cs1 ss1 : Nat) (l5 l6 : Option Value) (h1 : PH_), INVE_ h1 → cs1 ≤ cs + 1 → ss1 ≤ ss + 6 → PW G RL cL_law 7 (some .boolean) room_1 cs1 ss1 (zl_ G) 1195 [some (.ref sb), some (rr_ G 0), some (rr_ G mo_), some (rr_ G 2000), some (ii_ i), l5, l6] [] h1) : PW G RL cL_law 7 (some .boolean) room_1 cs ss (zl_ G) 780 [some (.ref sb), some (rr_ G 0), some (rr_ G mo_), some (rr_ G 2000), some (ii_ i), l5, l6] [] h := by
  refine pw_aload_n (z := 0) (pc := 780) dL_law_780 rfl rfl ?_
  refine pw_aloadQ_n (q := sb) (pc := 781) dL_law_781 rfl rfl ?_
  refine pw_iload (z := i) (pc := 782) dL_law_782 rfl ?_
  refine pw_iconst (pc := 784) dL_law_784 ?_
  refine pw_iadd (pc := 785) dL_law_785 ?_
  refine pw_sld (pc := 786) dL_law_786 hS hL (by omega) (by omega) ?_
  refine pw_aloadQ_n (q := sb) (pc := 787) dL_law_787 rfl rfl ?_
  refine pw_iload (z := i) (pc := 788) dL_law_788 rfl ?_
  refine pw_iconst (pc := 790) dL_law_790 ?_
  refine pw_iadd (pc := 791) dL_law_791 ?_
  refine pw_sld (pc := 792) dL_law_792 hS hL (by omega) (by omega) ?_
  obtain ⟨Q1, P1, K1⟩ := pair_pieces hC hM I0 (sv_ xs (i + 1)) (sv_ xs (i + 2)) sv_r sv_r
  refine pw_callV (c := 11) (o := 0) (As := [ii_ (sv_ xs (i + 1)), ii_ (sv_ xs (i + 2))]) (rest := []) (pc := 793) dL_law_793 P1 lL_105 mX11_pieces vX11_pieces (hC 0 (by decide)) (show kd_ 0 = 21 by decide +kernel) rfl rfl rfl (by decide) ⟨by show _ ≤ 601024; omega, by show _ ≤ 7293033; omega⟩ (Nat.le_of_ble_eq_true rfl) (k_i (fun z1 g1 y1 q1 => ?_))
  obtain ⟨Q2, P2, K2⟩ := K1 z1 g1 q1
  refine pw_aload_n (z := mo_) (pc := 796) dL_law_796 rfl rfl ?_
  refine pw_aloadQ_n (q := sb) (pc := 797) dL_law_797 rfl rfl ?_
  refine pw_iload (z := i) (pc := 798) dL_law_798 rfl ?_
  refine pw_iconst (pc := 800) dL_law_800 ?_
  refine pw_iadd (pc := 801) dL_law_801 ?_
  refine pw_sld (pc := 802) dL_law_802 hS hL (by omega) (by omega) ?_
  refine pw_aloadQ_n (q := sb) (pc := 803) dL_law_803 rfl rfl ?_
  refine pw_iload (z := i) (pc := 804) dL_law_804 rfl ?_
  refine pw_iconst (pc := 806) dL_law_806 ?_
  refine pw_iadd (pc := 807) dL_law_807 ?_
  refine pw_sld (pc := 808) dL_law_808 hS hL (by omega) (by omega) ?_
  refine pw_callV (c := 12) (o := mo_) (As := [ii_ (sv_ xs (i + 1)), ii_ (sv_ xs (i + 2))]) (rest := [ii_ z1]) (pc := 809) dL_law_809 P2 lL_108 mX12_pieces vX12_pieces (im_mo_ hM) k_mo_ rfl rfl rfl (by decide) ⟨by show _ ≤ 601024; omega, by show _ ≤ 7293033; omega⟩ (Nat.le_of_ble_eq_true rfl) (k_i (fun z2 g2 y2 q2 => ?_))
  obtain ⟨e12, I2⟩ := K2 z2 g2 q2
  subst e12
  refine pw_icmp_eq (t := 1195) (pc := 812) dL_law_812 (by decide) y1 y1 (fun _ => ?_) (fun c => absurd rfl c)
  exact J cs ss l5 l6 _ I2 (by omega) (by omega)

set_option maxHeartbeats 4000000 in
set_option maxRecDepth 100000 in
theorem law_c18 {G : GT_} (hC : okC_ G) (hM : okM_ G) (hO : 2000 ∈ gi_ G) (hX : gX_ G) {sb L : Nat} {xs : Nat → Int32} (hS : gS_ G sb L xs) (hL : L ≤ 3584) {i : Int} {cs ss : Nat} {l5 l6 : Option Value} {h : PH_} (I0 : INVE_ h) (hi : 0 ≤ i ∧ i ≤ (L : Int) - 7) (hcs : cs + 1 ≤ 601024 ∧ ss + 6 ≤ 7293033) (J : ∀ (cs1 ss1 : Nat) (l5 l6 : Option Value) (h1 : PH_), INVE_ h1 → cs1 ≤ cs + 1 → ss1 ≤ ss + 6 → PW G RL cL_law 7 (some .boolean) room_1 cs1 ss1 (zl_ G) 1195 [some (.ref sb), some (rr_ G 0), some (rr_ G mo_), some (rr_ G 2000), some (ii_ i), l5, l6] [] h1) : PW G RL cL_law 7 (some .boolean) room_1 cs ss (zl_ G) 817 [some (.ref sb), some (rr_ G 0), some (rr_ G mo_), some (rr_ G 2000), some (ii_ i), l5, l6] [] h := by
  refine pw_aload_n (z := 0) (pc := 817) dL_law_817 rfl rfl ?_
  refine pw_aloadQ_n (q := sb) (pc := 818) dL_law_818 rfl rfl ?_
  refine pw_iload (z := i) (pc := 819) dL_law_819 rfl ?_
  refine pw_iconst (pc := 821) dL_law_821 ?_
  refine pw_iadd (pc := 822) dL_law_822 ?_
  refine pw_sld (pc := 823) dL_law_823 hS hL (by omega) (by omega) ?_
  refine pw_aloadQ_n (q := sb) (pc := 824) dL_law_824 rfl rfl ?_
  refine pw_iload (z := i) (pc := 825) dL_law_825 rfl ?_
  refine pw_iconst (pc := 827) dL_law_827 ?_
  refine pw_iadd (pc := 828) dL_law_828 ?_
  refine pw_sld (pc := 829) dL_law_829 hS hL (by omega) (by omega) ?_
  obtain ⟨Q1, P1, K1⟩ := pair_toffees hC hM I0 (sv_ xs (i + 1)) (sv_ xs (i + 2)) sv_r sv_r
  refine pw_callV (c := 11) (o := 0) (As := [ii_ (sv_ xs (i + 1)), ii_ (sv_ xs (i + 2))]) (rest := []) (pc := 830) dL_law_830 P1 lL_109 mX11_toffees vX11_toffees (hC 0 (by decide)) (show kd_ 0 = 21 by decide +kernel) rfl rfl rfl (by decide) ⟨by show _ ≤ 601024; omega, by show _ ≤ 7293033; omega⟩ (Nat.le_of_ble_eq_true rfl) (k_i (fun z1 g1 y1 q1 => ?_))
  obtain ⟨Q2, P2, K2⟩ := K1 z1 g1 q1
  refine pw_aload_n (z := mo_) (pc := 833) dL_law_833 rfl rfl ?_
  refine pw_aloadQ_n (q := sb) (pc := 834) dL_law_834 rfl rfl ?_
  refine pw_iload (z := i) (pc := 835) dL_law_835 rfl ?_
  refine pw_iconst (pc := 837) dL_law_837 ?_
  refine pw_iadd (pc := 838) dL_law_838 ?_
  refine pw_sld (pc := 839) dL_law_839 hS hL (by omega) (by omega) ?_
  refine pw_aloadQ_n (q := sb) (pc := 840) dL_law_840 rfl rfl ?_
  refine pw_iload (z := i) (pc := 841) dL_law_841 rfl ?_
  refine pw_iconst (pc := 843) dL_law_843 ?_
  refine pw_iadd (pc := 844) dL_law_844 ?_
  refine pw_sld (pc := 845) dL_law_845 hS hL (by omega) (by omega) ?_
  refine pw_callV (c := 12) (o := mo_) (As := [ii_ (sv_ xs (i + 1)), ii_ (sv_ xs (i + 2))]) (rest := [ii_ z1]) (pc := 846) dL_law_846 P2 lL_112 mX12_toffees vX12_toffees (im_mo_ hM) k_mo_ rfl rfl rfl (by decide) ⟨by show _ ≤ 601024; omega, by show _ ≤ 7293033; omega⟩ (Nat.le_of_ble_eq_true rfl) (k_i (fun z2 g2 y2 q2 => ?_))
  obtain ⟨e12, I2⟩ := K2 z2 g2 q2
  subst e12
  refine pw_icmp_eq (t := 1195) (pc := 849) dL_law_849 (by decide) y1 y1 (fun _ => ?_) (fun c => absurd rfl c)
  exact J cs ss l5 l6 _ I2 (by omega) (by omega)

set_option maxHeartbeats 4000000 in
set_option maxRecDepth 100000 in
theorem law_c19 {G : GT_} (hC : okC_ G) (hM : okM_ G) (hO : 2000 ∈ gi_ G) (hX : gX_ G) {sb L : Nat} {xs : Nat → Int32} (hS : gS_ G sb L xs) (hL : L ≤ 3584) {i : Int} {cs ss : Nat} {l5 l6 : Option Value} {h : PH_} (I0 : INVE_ h) (hi : 0 ≤ i ∧ i ≤ (L : Int) - 7) (hcs : cs + 1 ≤ 601024 ∧ ss + 6 ≤ 7293033) (J : ∀ (cs1 ss1 : Nat) (l5 l6 : Option Value) (h1 : PH_), INVE_ h1 → cs1 ≤ cs + 1 → ss1 ≤ ss + 6 → PW G RL cL_law 7 (some .boolean) room_1 cs1 ss1 (zl_ G) 1195 [some (.ref sb), some (rr_ G 0), some (rr_ G mo_), some (rr_ G 2000), some (ii_ i), l5, l6] [] h1) : PW G RL cL_law 7 (some .boolean) room_1 cs ss (zl_ G) 854 [some (.ref sb), some (rr_ G 0), some (rr_ G mo_), some (rr_ G 2000), some (ii_ i), l5, l6] [] h := by
  refine pw_aload_n (z := 0) (pc := 854) dL_law_854 rfl rfl ?_
  refine pw_aloadQ_n (q := sb) (pc := 855) dL_law_855 rfl rfl ?_
  refine pw_iload (z := i) (pc := 856) dL_law_856 rfl ?_
  refine pw_iconst (pc := 858) dL_law_858 ?_
  refine pw_iadd (pc := 859) dL_law_859 ?_
  refine pw_sld (pc := 860) dL_law_860 hS hL (by omega) (by omega) ?_
  refine pw_aloadQ_n (q := sb) (pc := 861) dL_law_861 rfl rfl ?_
  refine pw_iload (z := i) (pc := 862) dL_law_862 rfl ?_
  refine pw_iconst (pc := 864) dL_law_864 ?_
  refine pw_iadd (pc := 865) dL_law_865 ?_
  refine pw_sld (pc := 866) dL_law_866 hS hL (by omega) (by omega) ?_
  refine pw_aloadQ_n (q := sb) (pc := 867) dL_law_867 rfl rfl ?_
  refine pw_iload (z := i) (pc := 868) dL_law_868 rfl ?_
  refine pw_iconst (pc := 870) dL_law_870 ?_
  refine pw_iadd (pc := 871) dL_law_871 ?_
  refine pw_sld (pc := 872) dL_law_872 hS hL (by omega) (by omega) ?_
  refine pw_aloadQ_n (q := sb) (pc := 873) dL_law_873 rfl rfl ?_
  refine pw_iload (z := i) (pc := 874) dL_law_874 rfl ?_
  refine pw_iconst (pc := 876) dL_law_876 ?_
  refine pw_iadd (pc := 877) dL_law_877 ?_
  refine pw_sld (pc := 878) dL_law_878 hS hL (by omega) (by omega) ?_
  obtain ⟨Q1, P1, K1⟩ := pair_door hC hM I0 (sv_ xs (i + 1)) (sv_ xs (i + 2)) (sv_ xs (i + 3)) (sv_ xs (i + 4)) sv_r sv_r sv_r sv_r
  refine pw_callV (c := 11) (o := 0) (As := [ii_ (sv_ xs (i + 1)), ii_ (sv_ xs (i + 2)), ii_ (sv_ xs (i + 3)), ii_ (sv_ xs (i + 4))]) (rest := []) (pc := 879) dL_law_879 P1 lL_113 mX11_door vX11_door (hC 0 (by decide)) (show kd_ 0 = 21 by decide +kernel) rfl rfl rfl (by decide) ⟨by show _ ≤ 601024; omega, by show _ ≤ 7293033; omega⟩ (Nat.le_of_ble_eq_true rfl) (k_l (fun z1 g1 y1 q1 => ?_))
  obtain ⟨Q2, P2, K2⟩ := K1 z1 g1 q1
  refine pw_aload_n (z := mo_) (pc := 882) dL_law_882 rfl rfl ?_
  refine pw_aloadQ_n (q := sb) (pc := 883) dL_law_883 rfl rfl ?_
  refine pw_iload (z := i) (pc := 884) dL_law_884 rfl ?_
  refine pw_iconst (pc := 886) dL_law_886 ?_
  refine pw_iadd (pc := 887) dL_law_887 ?_
  refine pw_sld (pc := 888) dL_law_888 hS hL (by omega) (by omega) ?_
  refine pw_aloadQ_n (q := sb) (pc := 889) dL_law_889 rfl rfl ?_
  refine pw_iload (z := i) (pc := 890) dL_law_890 rfl ?_
  refine pw_iconst (pc := 892) dL_law_892 ?_
  refine pw_iadd (pc := 893) dL_law_893 ?_
  refine pw_sld (pc := 894) dL_law_894 hS hL (by omega) (by omega) ?_
  refine pw_aloadQ_n (q := sb) (pc := 895) dL_law_895 rfl rfl ?_
  refine pw_iload (z := i) (pc := 896) dL_law_896 rfl ?_
  refine pw_iconst (pc := 898) dL_law_898 ?_
  refine pw_iadd (pc := 899) dL_law_899 ?_
  refine pw_sld (pc := 900) dL_law_900 hS hL (by omega) (by omega) ?_
  refine pw_aloadQ_n (q := sb) (pc := 901) dL_law_901 rfl rfl ?_
  refine pw_iload (z := i) (pc := 902) dL_law_902 rfl ?_
  refine pw_iconst (pc := 904) dL_law_904 ?_
  refine pw_iadd (pc := 905) dL_law_905 ?_
  refine pw_sld (pc := 906) dL_law_906 hS hL (by omega) (by omega) ?_
  refine pw_callV (c := 12) (o := mo_) (As := [ii_ (sv_ xs (i + 1)), ii_ (sv_ xs (i + 2)), ii_ (sv_ xs (i + 3)), ii_ (sv_ xs (i + 4))]) (rest := [ll_ z1]) (pc := 907) dL_law_907 P2 lL_117 mX12_door vX12_door (im_mo_ hM) k_mo_ rfl rfl rfl (by decide) ⟨by show _ ≤ 601024; omega, by show _ ≤ 7293033; omega⟩ (Nat.le_of_ble_eq_true rfl) (k_l (fun z2 g2 y2 q2 => ?_))
  obtain ⟨e12, I2⟩ := K2 z2 g2 q2
  subst e12
  refine pw_lcmp (pc := 910) dL_law_910 y1 y1 ?_
  refine pw_if_eq (t := 1195) (pc := 911) dL_law_911 (by decide) (by rw [if_neg (Int.lt_irrefl _), if_pos rfl]; constructor <;> decide) (fun _ => ?_) (fun c => absurd (by rw [if_neg (Int.lt_irrefl _), if_pos rfl]) c)
  exact J cs ss l5 l6 _ I2 (by omega) (by omega)

set_option maxHeartbeats 4000000 in
set_option maxRecDepth 100000 in
theorem law_c20 {G : GT_} (hC : okC_ G) (hM : okM_ G) (hO : 2000 ∈ gi_ G) (hX : gX_ G) {sb L : Nat} {xs : Nat → Int32} (hS : gS_ G sb L xs) (hL : L ≤ 3584) {i : Int} {cs ss : Nat} {l5 l6 : Option Value} {h : PH_} (I0 : INVE_ h) (hi : 0 ≤ i ∧ i ≤ (L : Int) - 7) (hcs : cs + 1 ≤ 601024 ∧ ss + 6 ≤ 7293033) (J : ∀ (cs1 ss1 : Nat) (l5 l6 : Option Value) (h1 : PH_), INVE_ h1 → cs1 ≤ cs + 1 → ss1 ≤ ss + 6 → PW G RL cL_law 7 (some .boolean) room_1 cs1 ss1 (zl_ G) 1195 [some (.ref sb), some (rr_ G 0), some (rr_ G mo_), some (rr_ G 2000), some (ii_ i), l5, l6] [] h1) : PW G RL cL_law 7 (some .boolean) room_1 cs ss (zl_ G) 916 [some (.ref sb), some (rr_ G 0), some (rr_ G mo_), some (rr_ G 2000), some (ii_ i), l5, l6] [] h := by
  refine pw_aload_n (z := 0) (pc := 916) dL_law_916 rfl rfl ?_
  refine pw_aloadQ_n (q := sb) (pc := 917) dL_law_917 rfl rfl ?_
  refine pw_iload (z := i) (pc := 918) dL_law_918 rfl ?_
  refine pw_iconst (pc := 920) dL_law_920 ?_
  refine pw_iadd (pc := 921) dL_law_921 ?_
  refine pw_sld (pc := 922) dL_law_922 hS hL (by omega) (by omega) ?_
  refine pw_aloadQ_n (q := sb) (pc := 923) dL_law_923 rfl rfl ?_
  refine pw_iload (z := i) (pc := 924) dL_law_924 rfl ?_
  refine pw_iconst (pc := 926) dL_law_926 ?_
  refine pw_iadd (pc := 927) dL_law_927 ?_
  refine pw_sld (pc := 928) dL_law_928 hS hL (by omega) (by omega) ?_
  obtain ⟨Q1, P1, K1⟩ := pair_called hC hM I0 (sv_ xs (i + 1)) (sv_ xs (i + 2)) sv_r sv_r
  refine pw_callV (c := 11) (o := 0) (As := [ii_ (sv_ xs (i + 1)), ii_ (sv_ xs (i + 2))]) (rest := []) (pc := 929) dL_law_929 P1 lL_118 mX11_called vX11_called (hC 0 (by decide)) (show kd_ 0 = 21 by decide +kernel) rfl rfl rfl (by decide) ⟨by show _ ≤ 601024; omega, by show _ ≤ 7293033; omega⟩ (Nat.le_of_ble_eq_true rfl) (k_i (fun z1 g1 y1 q1 => ?_))
  obtain ⟨Q2, P2, K2⟩ := K1 z1 g1 q1
  refine pw_aload_n (z := mo_) (pc := 932) dL_law_932 rfl rfl ?_
  refine pw_aloadQ_n (q := sb) (pc := 933) dL_law_933 rfl rfl ?_
  refine pw_iload (z := i) (pc := 934) dL_law_934 rfl ?_
  refine pw_iconst (pc := 936) dL_law_936 ?_
  refine pw_iadd (pc := 937) dL_law_937 ?_
  refine pw_sld (pc := 938) dL_law_938 hS hL (by omega) (by omega) ?_
  refine pw_aloadQ_n (q := sb) (pc := 939) dL_law_939 rfl rfl ?_
  refine pw_iload (z := i) (pc := 940) dL_law_940 rfl ?_
  refine pw_iconst (pc := 942) dL_law_942 ?_
  refine pw_iadd (pc := 943) dL_law_943 ?_
  refine pw_sld (pc := 944) dL_law_944 hS hL (by omega) (by omega) ?_
  refine pw_callV (c := 12) (o := mo_) (As := [ii_ (sv_ xs (i + 1)), ii_ (sv_ xs (i + 2))]) (rest := [ii_ z1]) (pc := 945) dL_law_945 P2 lL_121 mX12_called vX12_called (im_mo_ hM) k_mo_ rfl rfl rfl (by decide) ⟨by show _ ≤ 601024; omega, by show _ ≤ 7293033; omega⟩ (Nat.le_of_ble_eq_true rfl) (k_i (fun z2 g2 y2 q2 => ?_))
  obtain ⟨e12, I2⟩ := K2 z2 g2 q2
  subst e12
  refine pw_icmp_eq (t := 1195) (pc := 948) dL_law_948 (by decide) y1 y1 (fun _ => ?_) (fun c => absurd rfl c)
  exact J cs ss l5 l6 _ I2 (by omega) (by omega)

set_option maxHeartbeats 4000000 in
set_option maxRecDepth 100000 in
theorem law_c21 {G : GT_} (hC : okC_ G) (hM : okM_ G) (hO : 2000 ∈ gi_ G) (hX : gX_ G) {sb L : Nat} {xs : Nat → Int32} (hS : gS_ G sb L xs) (hL : L ≤ 3584) {i : Int} {cs ss : Nat} {l5 l6 : Option Value} {h : PH_} (I0 : INVE_ h) (hi : 0 ≤ i ∧ i ≤ (L : Int) - 7) (hcs : cs + 1 ≤ 601024 ∧ ss + 6 ≤ 7293033) (J : ∀ (cs1 ss1 : Nat) (l5 l6 : Option Value) (h1 : PH_), INVE_ h1 → cs1 ≤ cs + 1 → ss1 ≤ ss + 6 → PW G RL cL_law 7 (some .boolean) room_1 cs1 ss1 (zl_ G) 1195 [some (.ref sb), some (rr_ G 0), some (rr_ G mo_), some (rr_ G 2000), some (ii_ i), l5, l6] [] h1) : PW G RL cL_law 7 (some .boolean) room_1 cs ss (zl_ G) 953 [some (.ref sb), some (rr_ G 0), some (rr_ G mo_), some (rr_ G 2000), some (ii_ i), l5, l6] [] h := by
  refine pw_aload_n (z := 0) (pc := 953) dL_law_953 rfl rfl ?_
  obtain ⟨Q1, P1, K1⟩ := pair_fairest hC hM I0  
  refine pw_callV (c := 11) (o := 0) (As := []) (rest := []) (pc := 954) dL_law_954 P1 lL_122 mX11_fairest vX11_fairest (hC 0 (by decide)) (show kd_ 0 = 21 by decide +kernel) rfl rfl rfl (by decide) ⟨by show _ ≤ 601024; omega, by show _ ≤ 7293033; omega⟩ (Nat.le_of_ble_eq_true rfl) (k_i (fun z1 g1 y1 q1 => ?_))
  obtain ⟨Q2, P2, K2⟩ := K1 z1 g1 q1
  refine pw_aload_n (z := mo_) (pc := 957) dL_law_957 rfl rfl ?_
  refine pw_callV (c := 12) (o := mo_) (As := []) (rest := [ii_ z1]) (pc := 958) dL_law_958 P2 lL_125 mX12_fairest vX12_fairest (im_mo_ hM) k_mo_ rfl rfl rfl (by decide) ⟨by show _ ≤ 601024; omega, by show _ ≤ 7293033; omega⟩ (Nat.le_of_ble_eq_true rfl) (k_i (fun z2 g2 y2 q2 => ?_))
  obtain ⟨e12, I2⟩ := K2 z2 g2 q2
  subst e12
  refine pw_icmp_eq (t := 1195) (pc := 961) dL_law_961 (by decide) y1 y1 (fun _ => ?_) (fun c => absurd rfl c)
  exact J cs ss l5 l6 _ I2 (by omega) (by omega)

set_option maxHeartbeats 4000000 in
set_option maxRecDepth 100000 in
theorem law_c22 {G : GT_} (hC : okC_ G) (hM : okM_ G) (hO : 2000 ∈ gi_ G) (hX : gX_ G) {sb L : Nat} {xs : Nat → Int32} (hS : gS_ G sb L xs) (hL : L ≤ 3584) {i : Int} {cs ss : Nat} {l5 l6 : Option Value} {h : PH_} (I0 : INVE_ h) (hi : 0 ≤ i ∧ i ≤ (L : Int) - 7) (hcs : cs + 1 ≤ 601024 ∧ ss + 6 ≤ 7293033) (J : ∀ (cs1 ss1 : Nat) (l5 l6 : Option Value) (h1 : PH_), INVE_ h1 → cs1 ≤ cs + 1 → ss1 ≤ ss + 6 → PW G RL cL_law 7 (some .boolean) room_1 cs1 ss1 (zl_ G) 1195 [some (.ref sb), some (rr_ G 0), some (rr_ G mo_), some (rr_ G 2000), some (ii_ i), l5, l6] [] h1) : PW G RL cL_law 7 (some .boolean) room_1 cs ss (zl_ G) 966 [some (.ref sb), some (rr_ G 0), some (rr_ G mo_), some (rr_ G 2000), some (ii_ i), l5, l6] [] h := by
  refine pw_aload_n (z := 0) (pc := 966) dL_law_966 rfl rfl ?_
  refine pw_aloadQ_n (q := sb) (pc := 967) dL_law_967 rfl rfl ?_
  refine pw_iload (z := i) (pc := 968) dL_law_968 rfl ?_
  refine pw_iconst (pc := 970) dL_law_970 ?_
  refine pw_iadd (pc := 971) dL_law_971 ?_
  refine pw_sld (pc := 972) dL_law_972 hS hL (by omega) (by omega) ?_
  refine pw_aloadQ_n (q := sb) (pc := 973) dL_law_973 rfl rfl ?_
  refine pw_iload (z := i) (pc := 974) dL_law_974 rfl ?_
  refine pw_iconst (pc := 976) dL_law_976 ?_
  refine pw_iadd (pc := 977) dL_law_977 ?_
  refine pw_sld (pc := 978) dL_law_978 hS hL (by omega) (by omega) ?_
  refine pw_aloadQ_n (q := sb) (pc := 979) dL_law_979 rfl rfl ?_
  refine pw_iload (z := i) (pc := 980) dL_law_980 rfl ?_
  refine pw_iconst (pc := 982) dL_law_982 ?_
  refine pw_iadd (pc := 983) dL_law_983 ?_
  refine pw_sld (pc := 984) dL_law_984 hS hL (by omega) (by omega) ?_
  refine pw_aloadQ_n (q := sb) (pc := 985) dL_law_985 rfl rfl ?_
  refine pw_iload (z := i) (pc := 986) dL_law_986 rfl ?_
  refine pw_iconst (pc := 988) dL_law_988 ?_
  refine pw_iadd (pc := 989) dL_law_989 ?_
  refine pw_sld (pc := 990) dL_law_990 hS hL (by omega) (by omega) ?_
  by_cases b991 : sv_ xs (i + 4) = 0
  · refine pw_if_eq (t := 998) (pc := 991) dL_law_991 (by decide) sv_r (fun _ => ?_) (fun c => absurd b991 c)
    refine pw_iconst (pc := 998) dL_law_998 ?_
    obtain ⟨Q1, P1, K1⟩ := pair_see0 hC hM I0 (sv_ xs (i + 1)) (sv_ xs (i + 2)) (sv_ xs (i + 3)) sv_r sv_r sv_r
    refine pw_callV (c := 11) (o := 0) (As := [ii_ (sv_ xs (i + 1)), ii_ (sv_ xs (i + 2)), ii_ (sv_ xs (i + 3)), ii_ (0)]) (rest := []) (pc := 999) dL_law_999 P1 lL_126 mX11_see vX11_see (hC 0 (by decide)) (show kd_ 0 = 21 by decide +kernel) rfl rfl rfl (by decide) ⟨by show _ ≤ 601024; omega, by show _ ≤ 7293033; omega⟩ (Nat.le_of_ble_eq_true rfl) (k_i (fun z1 g1 y1 q1 => ?_))
    obtain ⟨Q2, P2, K2⟩ := K1 z1 g1 q1
    refine pw_aload_n (z := mo_) (pc := 1002) dL_law_1002 rfl rfl ?_
    refine pw_aloadQ_n (q := sb) (pc := 1003) dL_law_1003 rfl rfl ?_
    refine pw_iload (z := i) (pc := 1004) dL_law_1004 rfl ?_
    refine pw_iconst (pc := 1006) dL_law_1006 ?_
    refine pw_iadd (pc := 1007) dL_law_1007 ?_
    refine pw_sld (pc := 1008) dL_law_1008 hS hL (by omega) (by omega) ?_
    refine pw_aloadQ_n (q := sb) (pc := 1009) dL_law_1009 rfl rfl ?_
    refine pw_iload (z := i) (pc := 1010) dL_law_1010 rfl ?_
    refine pw_iconst (pc := 1012) dL_law_1012 ?_
    refine pw_iadd (pc := 1013) dL_law_1013 ?_
    refine pw_sld (pc := 1014) dL_law_1014 hS hL (by omega) (by omega) ?_
    refine pw_aloadQ_n (q := sb) (pc := 1015) dL_law_1015 rfl rfl ?_
    refine pw_iload (z := i) (pc := 1016) dL_law_1016 rfl ?_
    refine pw_iconst (pc := 1018) dL_law_1018 ?_
    refine pw_iadd (pc := 1019) dL_law_1019 ?_
    refine pw_sld (pc := 1020) dL_law_1020 hS hL (by omega) (by omega) ?_
    refine pw_aloadQ_n (q := sb) (pc := 1021) dL_law_1021 rfl rfl ?_
    refine pw_iload (z := i) (pc := 1022) dL_law_1022 rfl ?_
    refine pw_iconst (pc := 1024) dL_law_1024 ?_
    refine pw_iadd (pc := 1025) dL_law_1025 ?_
    refine pw_sld (pc := 1026) dL_law_1026 hS hL (by omega) (by omega) ?_
    refine pw_if_eq (t := 1034) (pc := 1027) dL_law_1027 (by decide) sv_r (fun _ => ?_) (fun c => absurd b991 c)
    refine pw_iconst (pc := 1034) dL_law_1034 ?_
    refine pw_callV (c := 12) (o := mo_) (As := [ii_ (sv_ xs (i + 1)), ii_ (sv_ xs (i + 2)), ii_ (sv_ xs (i + 3)), ii_ (0)]) (rest := [ii_ z1]) (pc := 1035) dL_law_1035 P2 lL_130 mX12_see vX12_see (im_mo_ hM) k_mo_ rfl rfl rfl (by decide) ⟨by show _ ≤ 601024; omega, by show _ ≤ 7293033; omega⟩ (Nat.le_of_ble_eq_true rfl) (k_i (fun z2 g2 y2 q2 => ?_))
    obtain ⟨e12, I2⟩ := K2 z2 g2 q2
    subst e12
    refine pw_icmp_eq (t := 1195) (pc := 1038) dL_law_1038 (by decide) y1 y1 (fun _ => ?_) (fun c => absurd rfl c)
    exact J cs ss l5 l6 _ I2 (by omega) (by omega)
  · refine pw_if_eq (t := 998) (pc := 991) dL_law_991 (by decide) sv_r (fun c => absurd c b991) (fun _ => ?_)
    refine pw_iconst (pc := 994) dL_law_994 ?_
    refine pw_goto (t := 999) (pc := 995) dL_law_995 (by decide) ?_
    obtain ⟨Q1, P1, K1⟩ := pair_see1 hC hM I0 (sv_ xs (i + 1)) (sv_ xs (i + 2)) (sv_ xs (i + 3)) sv_r sv_r sv_r
    refine pw_callV (c := 11) (o := 0) (As := [ii_ (sv_ xs (i + 1)), ii_ (sv_ xs (i + 2)), ii_ (sv_ xs (i + 3)), ii_ (1)]) (rest := []) (pc := 999) dL_law_999 P1 lL_126 mX11_see vX11_see (hC 0 (by decide)) (show kd_ 0 = 21 by decide +kernel) rfl rfl rfl (by decide) ⟨by show _ ≤ 601024; omega, by show _ ≤ 7293033; omega⟩ (Nat.le_of_ble_eq_true rfl) (k_i (fun z1 g1 y1 q1 => ?_))
    obtain ⟨Q2, P2, K2⟩ := K1 z1 g1 q1
    refine pw_aload_n (z := mo_) (pc := 1002) dL_law_1002 rfl rfl ?_
    refine pw_aloadQ_n (q := sb) (pc := 1003) dL_law_1003 rfl rfl ?_
    refine pw_iload (z := i) (pc := 1004) dL_law_1004 rfl ?_
    refine pw_iconst (pc := 1006) dL_law_1006 ?_
    refine pw_iadd (pc := 1007) dL_law_1007 ?_
    refine pw_sld (pc := 1008) dL_law_1008 hS hL (by omega) (by omega) ?_
    refine pw_aloadQ_n (q := sb) (pc := 1009) dL_law_1009 rfl rfl ?_
    refine pw_iload (z := i) (pc := 1010) dL_law_1010 rfl ?_
    refine pw_iconst (pc := 1012) dL_law_1012 ?_
    refine pw_iadd (pc := 1013) dL_law_1013 ?_
    refine pw_sld (pc := 1014) dL_law_1014 hS hL (by omega) (by omega) ?_
    refine pw_aloadQ_n (q := sb) (pc := 1015) dL_law_1015 rfl rfl ?_
    refine pw_iload (z := i) (pc := 1016) dL_law_1016 rfl ?_
    refine pw_iconst (pc := 1018) dL_law_1018 ?_
    refine pw_iadd (pc := 1019) dL_law_1019 ?_
    refine pw_sld (pc := 1020) dL_law_1020 hS hL (by omega) (by omega) ?_
    refine pw_aloadQ_n (q := sb) (pc := 1021) dL_law_1021 rfl rfl ?_
    refine pw_iload (z := i) (pc := 1022) dL_law_1022 rfl ?_
    refine pw_iconst (pc := 1024) dL_law_1024 ?_
    refine pw_iadd (pc := 1025) dL_law_1025 ?_
    refine pw_sld (pc := 1026) dL_law_1026 hS hL (by omega) (by omega) ?_
    refine pw_if_eq (t := 1034) (pc := 1027) dL_law_1027 (by decide) sv_r (fun c => absurd c b991) (fun _ => ?_)
    refine pw_iconst (pc := 1030) dL_law_1030 ?_
    refine pw_goto (t := 1035) (pc := 1031) dL_law_1031 (by decide) ?_
    refine pw_callV (c := 12) (o := mo_) (As := [ii_ (sv_ xs (i + 1)), ii_ (sv_ xs (i + 2)), ii_ (sv_ xs (i + 3)), ii_ (1)]) (rest := [ii_ z1]) (pc := 1035) dL_law_1035 P2 lL_130 mX12_see vX12_see (im_mo_ hM) k_mo_ rfl rfl rfl (by decide) ⟨by show _ ≤ 601024; omega, by show _ ≤ 7293033; omega⟩ (Nat.le_of_ble_eq_true rfl) (k_i (fun z2 g2 y2 q2 => ?_))
    obtain ⟨e12, I2⟩ := K2 z2 g2 q2
    subst e12
    refine pw_icmp_eq (t := 1195) (pc := 1038) dL_law_1038 (by decide) y1 y1 (fun _ => ?_) (fun c => absurd rfl c)
    exact J cs ss l5 l6 _ I2 (by omega) (by omega)

set_option maxHeartbeats 4000000 in
set_option maxRecDepth 100000 in
theorem law_c23 {G : GT_} (hC : okC_ G) (hM : okM_ G) (hO : 2000 ∈ gi_ G) (hX : gX_ G) {sb L : Nat} {xs : Nat → Int32} (hS : gS_ G sb L xs) (hL : L ≤ 3584) {i : Int} {cs ss : Nat} {l5 l6 : Option Value} {h : PH_} (I0 : INVE_ h) (hi : 0 ≤ i ∧ i ≤ (L : Int) - 7) (hcs : cs + 1 ≤ 601024 ∧ ss + 6 ≤ 7293033) (J : ∀ (cs1 ss1 : Nat) (l5 l6 : Option Value) (h1 : PH_), INVE_ h1 → cs1 ≤ cs + 1 → ss1 ≤ ss + 6 → PW G RL cL_law 7 (some .boolean) room_1 cs1 ss1 (zl_ G) 1195 [some (.ref sb), some (rr_ G 0), some (rr_ G mo_), some (rr_ G 2000), some (ii_ i), l5, l6] [] h1) : PW G RL cL_law 7 (some .boolean) room_1 cs ss (zl_ G) 1043 [some (.ref sb), some (rr_ G 0), some (rr_ G mo_), some (rr_ G 2000), some (ii_ i), l5, l6] [] h := by
  refine pw_aload_n (z := 0) (pc := 1043) dL_law_1043 rfl rfl ?_
  refine pw_aloadQ_n (q := sb) (pc := 1044) dL_law_1044 rfl rfl ?_
  refine pw_iload (z := i) (pc := 1045) dL_law_1045 rfl ?_
  refine pw_iconst (pc := 1047) dL_law_1047 ?_
  refine pw_iadd (pc := 1048) dL_law_1048 ?_
  refine pw_sld (pc := 1049) dL_law_1049 hS hL (by omega) (by omega) ?_
  obtain ⟨Q1, P1, K1⟩ := pair_fits hC hM I0 (sv_ xs (i + 1)) sv_r
  refine pw_callV (c := 11) (o := 0) (As := [ii_ (sv_ xs (i + 1))]) (rest := []) (pc := 1050) dL_law_1050 P1 lL_131 mX11_fits vX11_fits (hC 0 (by decide)) (show kd_ 0 = 21 by decide +kernel) rfl rfl rfl (by decide) ⟨by show _ ≤ 601024; omega, by show _ ≤ 7293033; omega⟩ (Nat.le_of_ble_eq_true rfl) (k_i (fun z1 g1 y1 q1 => ?_))
  obtain ⟨Q2, P2, K2⟩ := K1 z1 g1 q1
  refine pw_aload_n (z := mo_) (pc := 1053) dL_law_1053 rfl rfl ?_
  refine pw_aloadQ_n (q := sb) (pc := 1054) dL_law_1054 rfl rfl ?_
  refine pw_iload (z := i) (pc := 1055) dL_law_1055 rfl ?_
  refine pw_iconst (pc := 1057) dL_law_1057 ?_
  refine pw_iadd (pc := 1058) dL_law_1058 ?_
  refine pw_sld (pc := 1059) dL_law_1059 hS hL (by omega) (by omega) ?_
  refine pw_callV (c := 12) (o := mo_) (As := [ii_ (sv_ xs (i + 1))]) (rest := [ii_ z1]) (pc := 1060) dL_law_1060 P2 lL_134 mX12_fits vX12_fits (im_mo_ hM) k_mo_ rfl rfl rfl (by decide) ⟨by show _ ≤ 601024; omega, by show _ ≤ 7293033; omega⟩ (Nat.le_of_ble_eq_true rfl) (k_i (fun z2 g2 y2 q2 => ?_))
  obtain ⟨e12, I2⟩ := K2 z2 g2 q2
  subst e12
  refine pw_icmp_eq (t := 1195) (pc := 1063) dL_law_1063 (by decide) y1 y1 (fun _ => ?_) (fun c => absurd rfl c)
  exact J cs ss l5 l6 _ I2 (by omega) (by omega)

set_option maxHeartbeats 4000000 in
set_option maxRecDepth 100000 in
theorem law_c24 {G : GT_} (hC : okC_ G) (hM : okM_ G) (hO : 2000 ∈ gi_ G) (hX : gX_ G) {sb L : Nat} {xs : Nat → Int32} (hS : gS_ G sb L xs) (hL : L ≤ 3584) {i : Int} {cs ss : Nat} {l5 l6 : Option Value} {h : PH_} (I0 : INVE_ h) (hi : 0 ≤ i ∧ i ≤ (L : Int) - 7) (hcs : cs + 1 ≤ 601024 ∧ ss + 6 ≤ 7293033) (J : ∀ (cs1 ss1 : Nat) (l5 l6 : Option Value) (h1 : PH_), INVE_ h1 → cs1 ≤ cs + 1 → ss1 ≤ ss + 6 → PW G RL cL_law 7 (some .boolean) room_1 cs1 ss1 (zl_ G) 1195 [some (.ref sb), some (rr_ G 0), some (rr_ G mo_), some (rr_ G 2000), some (ii_ i), l5, l6] [] h1) : PW G RL cL_law 7 (some .boolean) room_1 cs ss (zl_ G) 1068 [some (.ref sb), some (rr_ G 0), some (rr_ G mo_), some (rr_ G 2000), some (ii_ i), l5, l6] [] h := by
  refine pw_aload_n (z := 0) (pc := 1068) dL_law_1068 rfl rfl ?_
  refine pw_aloadQ_n (q := sb) (pc := 1069) dL_law_1069 rfl rfl ?_
  refine pw_iload (z := i) (pc := 1070) dL_law_1070 rfl ?_
  refine pw_iconst (pc := 1072) dL_law_1072 ?_
  refine pw_iadd (pc := 1073) dL_law_1073 ?_
  refine pw_sld (pc := 1074) dL_law_1074 hS hL (by omega) (by omega) ?_
  refine pw_aloadQ_n (q := sb) (pc := 1075) dL_law_1075 rfl rfl ?_
  refine pw_iload (z := i) (pc := 1076) dL_law_1076 rfl ?_
  refine pw_iconst (pc := 1078) dL_law_1078 ?_
  refine pw_iadd (pc := 1079) dL_law_1079 ?_
  refine pw_sld (pc := 1080) dL_law_1080 hS hL (by omega) (by omega) ?_
  refine pw_aloadQ_n (q := sb) (pc := 1081) dL_law_1081 rfl rfl ?_
  refine pw_iload (z := i) (pc := 1082) dL_law_1082 rfl ?_
  refine pw_iconst (pc := 1084) dL_law_1084 ?_
  refine pw_iadd (pc := 1085) dL_law_1085 ?_
  refine pw_sld (pc := 1086) dL_law_1086 hS hL (by omega) (by omega) ?_
  obtain ⟨Q1, P1, K1⟩ := pair_years hC hM I0 (sv_ xs (i + 1)) (sv_ xs (i + 2)) (sv_ xs (i + 3)) sv_r sv_r sv_r
  refine pw_callV (c := 11) (o := 0) (As := [ii_ (sv_ xs (i + 1)), ii_ (sv_ xs (i + 2)), ii_ (sv_ xs (i + 3))]) (rest := []) (pc := 1087) dL_law_1087 P1 lL_135 mX11_years vX11_years (hC 0 (by decide)) (show kd_ 0 = 21 by decide +kernel) rfl rfl rfl (by decide) ⟨by show _ ≤ 601024; omega, by show _ ≤ 7293033; omega⟩ (Nat.le_of_ble_eq_true rfl) (k_i (fun z1 g1 y1 q1 => ?_))
  obtain ⟨Q2, P2, K2⟩ := K1 z1 g1 q1
  refine pw_aload_n (z := mo_) (pc := 1090) dL_law_1090 rfl rfl ?_
  refine pw_aloadQ_n (q := sb) (pc := 1091) dL_law_1091 rfl rfl ?_
  refine pw_iload (z := i) (pc := 1092) dL_law_1092 rfl ?_
  refine pw_iconst (pc := 1094) dL_law_1094 ?_
  refine pw_iadd (pc := 1095) dL_law_1095 ?_
  refine pw_sld (pc := 1096) dL_law_1096 hS hL (by omega) (by omega) ?_
  refine pw_aloadQ_n (q := sb) (pc := 1097) dL_law_1097 rfl rfl ?_
  refine pw_iload (z := i) (pc := 1098) dL_law_1098 rfl ?_
  refine pw_iconst (pc := 1100) dL_law_1100 ?_
  refine pw_iadd (pc := 1101) dL_law_1101 ?_
  refine pw_sld (pc := 1102) dL_law_1102 hS hL (by omega) (by omega) ?_
  refine pw_aloadQ_n (q := sb) (pc := 1103) dL_law_1103 rfl rfl ?_
  refine pw_iload (z := i) (pc := 1104) dL_law_1104 rfl ?_
  refine pw_iconst (pc := 1106) dL_law_1106 ?_
  refine pw_iadd (pc := 1107) dL_law_1107 ?_
  refine pw_sld (pc := 1108) dL_law_1108 hS hL (by omega) (by omega) ?_
  refine pw_callV (c := 12) (o := mo_) (As := [ii_ (sv_ xs (i + 1)), ii_ (sv_ xs (i + 2)), ii_ (sv_ xs (i + 3))]) (rest := [ii_ z1]) (pc := 1109) dL_law_1109 P2 lL_138 mX12_years vX12_years (im_mo_ hM) k_mo_ rfl rfl rfl (by decide) ⟨by show _ ≤ 601024; omega, by show _ ≤ 7293033; omega⟩ (Nat.le_of_ble_eq_true rfl) (k_i (fun z2 g2 y2 q2 => ?_))
  obtain ⟨e12, I2⟩ := K2 z2 g2 q2
  subst e12
  refine pw_icmp_eq (t := 1195) (pc := 1112) dL_law_1112 (by decide) y1 y1 (fun _ => ?_) (fun c => absurd rfl c)
  exact J cs ss l5 l6 _ I2 (by omega) (by omega)

set_option maxHeartbeats 4000000 in
set_option maxRecDepth 100000 in
theorem law_c25 {G : GT_} (hC : okC_ G) (hM : okM_ G) (hO : 2000 ∈ gi_ G) (hX : gX_ G) {sb L : Nat} {xs : Nat → Int32} (hS : gS_ G sb L xs) (hL : L ≤ 3584) {i : Int} {cs ss : Nat} {l5 l6 : Option Value} {h : PH_} (I0 : INVE_ h) (hi : 0 ≤ i ∧ i ≤ (L : Int) - 7) (hcs : cs + 1 ≤ 601024 ∧ ss + 6 ≤ 7293033) (J : ∀ (cs1 ss1 : Nat) (l5 l6 : Option Value) (h1 : PH_), INVE_ h1 → cs1 ≤ cs + 1 → ss1 ≤ ss + 6 → PW G RL cL_law 7 (some .boolean) room_1 cs1 ss1 (zl_ G) 1195 [some (.ref sb), some (rr_ G 0), some (rr_ G mo_), some (rr_ G 2000), some (ii_ i), l5, l6] [] h1) : PW G RL cL_law 7 (some .boolean) room_1 cs ss (zl_ G) 1117 [some (.ref sb), some (rr_ G 0), some (rr_ G mo_), some (rr_ G 2000), some (ii_ i), l5, l6] [] h := by
  refine pw_aload_n (z := 0) (pc := 1117) dL_law_1117 rfl rfl ?_
  refine pw_aloadQ_n (q := sb) (pc := 1118) dL_law_1118 rfl rfl ?_
  refine pw_iload (z := i) (pc := 1119) dL_law_1119 rfl ?_
  refine pw_iconst (pc := 1121) dL_law_1121 ?_
  refine pw_iadd (pc := 1122) dL_law_1122 ?_
  refine pw_sld (pc := 1123) dL_law_1123 hS hL (by omega) (by omega) ?_
  refine pw_aloadQ_n (q := sb) (pc := 1124) dL_law_1124 rfl rfl ?_
  refine pw_iload (z := i) (pc := 1125) dL_law_1125 rfl ?_
  refine pw_iconst (pc := 1127) dL_law_1127 ?_
  refine pw_iadd (pc := 1128) dL_law_1128 ?_
  refine pw_sld (pc := 1129) dL_law_1129 hS hL (by omega) (by omega) ?_
  by_cases b1130 : sv_ xs (i + 2) = 0
  · refine pw_if_eq (t := 1137) (pc := 1130) dL_law_1130 (by decide) sv_r (fun _ => ?_) (fun c => absurd b1130 c)
    refine pw_iconst (pc := 1137) dL_law_1137 ?_
    obtain ⟨Q1, P1, K1⟩ := pair_mark0 hC hM I0 (sv_ xs (i + 1)) sv_r
    refine pw_callV (c := 11) (o := 0) (As := [ii_ (sv_ xs (i + 1)), ii_ (0)]) (rest := []) (pc := 1138) dL_law_1138 P1 lL_139 mX11_mark vX11_mark (hC 0 (by decide)) (show kd_ 0 = 21 by decide +kernel) rfl rfl rfl (by decide) ⟨by show _ ≤ 601024; omega, by show _ ≤ 7293033; omega⟩ (Nat.le_of_ble_eq_true rfl) (k_i (fun z1 g1 y1 q1 => ?_))
    obtain ⟨Q2, P2, K2⟩ := K1 z1 g1 q1
    refine pw_aload_n (z := mo_) (pc := 1141) dL_law_1141 rfl rfl ?_
    refine pw_aloadQ_n (q := sb) (pc := 1142) dL_law_1142 rfl rfl ?_
    refine pw_iload (z := i) (pc := 1143) dL_law_1143 rfl ?_
    refine pw_iconst (pc := 1145) dL_law_1145 ?_
    refine pw_iadd (pc := 1146) dL_law_1146 ?_
    refine pw_sld (pc := 1147) dL_law_1147 hS hL (by omega) (by omega) ?_
    refine pw_aloadQ_n (q := sb) (pc := 1148) dL_law_1148 rfl rfl ?_
    refine pw_iload (z := i) (pc := 1149) dL_law_1149 rfl ?_
    refine pw_iconst (pc := 1151) dL_law_1151 ?_
    refine pw_iadd (pc := 1152) dL_law_1152 ?_
    refine pw_sld (pc := 1153) dL_law_1153 hS hL (by omega) (by omega) ?_
    refine pw_if_eq (t := 1161) (pc := 1154) dL_law_1154 (by decide) sv_r (fun _ => ?_) (fun c => absurd b1130 c)
    refine pw_iconst (pc := 1161) dL_law_1161 ?_
    refine pw_callV (c := 12) (o := mo_) (As := [ii_ (sv_ xs (i + 1)), ii_ (0)]) (rest := [ii_ z1]) (pc := 1162) dL_law_1162 P2 lL_143 mX12_mark vX12_mark (im_mo_ hM) k_mo_ rfl rfl rfl (by decide) ⟨by show _ ≤ 601024; omega, by show _ ≤ 7293033; omega⟩ (Nat.le_of_ble_eq_true rfl) (k_i (fun z2 g2 y2 q2 => ?_))
    obtain ⟨e12, I2⟩ := K2 z2 g2 q2
    subst e12
    refine pw_icmp_eq (t := 1195) (pc := 1165) dL_law_1165 (by decide) y1 y1 (fun _ => ?_) (fun c => absurd rfl c)
    exact J cs ss l5 l6 _ I2 (by omega) (by omega)
  · refine pw_if_eq (t := 1137) (pc := 1130) dL_law_1130 (by decide) sv_r (fun c => absurd c b1130) (fun _ => ?_)
    refine pw_iconst (pc := 1133) dL_law_1133 ?_
    refine pw_goto (t := 1138) (pc := 1134) dL_law_1134 (by decide) ?_
    obtain ⟨Q1, P1, K1⟩ := pair_mark1 hC hM I0 (sv_ xs (i + 1)) sv_r
    refine pw_callV (c := 11) (o := 0) (As := [ii_ (sv_ xs (i + 1)), ii_ (1)]) (rest := []) (pc := 1138) dL_law_1138 P1 lL_139 mX11_mark vX11_mark (hC 0 (by decide)) (show kd_ 0 = 21 by decide +kernel) rfl rfl rfl (by decide) ⟨by show _ ≤ 601024; omega, by show _ ≤ 7293033; omega⟩ (Nat.le_of_ble_eq_true rfl) (k_i (fun z1 g1 y1 q1 => ?_))
    obtain ⟨Q2, P2, K2⟩ := K1 z1 g1 q1
    refine pw_aload_n (z := mo_) (pc := 1141) dL_law_1141 rfl rfl ?_
    refine pw_aloadQ_n (q := sb) (pc := 1142) dL_law_1142 rfl rfl ?_
    refine pw_iload (z := i) (pc := 1143) dL_law_1143 rfl ?_
    refine pw_iconst (pc := 1145) dL_law_1145 ?_
    refine pw_iadd (pc := 1146) dL_law_1146 ?_
    refine pw_sld (pc := 1147) dL_law_1147 hS hL (by omega) (by omega) ?_
    refine pw_aloadQ_n (q := sb) (pc := 1148) dL_law_1148 rfl rfl ?_
    refine pw_iload (z := i) (pc := 1149) dL_law_1149 rfl ?_
    refine pw_iconst (pc := 1151) dL_law_1151 ?_
    refine pw_iadd (pc := 1152) dL_law_1152 ?_
    refine pw_sld (pc := 1153) dL_law_1153 hS hL (by omega) (by omega) ?_
    refine pw_if_eq (t := 1161) (pc := 1154) dL_law_1154 (by decide) sv_r (fun c => absurd c b1130) (fun _ => ?_)
    refine pw_iconst (pc := 1157) dL_law_1157 ?_
    refine pw_goto (t := 1162) (pc := 1158) dL_law_1158 (by decide) ?_
    refine pw_callV (c := 12) (o := mo_) (As := [ii_ (sv_ xs (i + 1)), ii_ (1)]) (rest := [ii_ z1]) (pc := 1162) dL_law_1162 P2 lL_143 mX12_mark vX12_mark (im_mo_ hM) k_mo_ rfl rfl rfl (by decide) ⟨by show _ ≤ 601024; omega, by show _ ≤ 7293033; omega⟩ (Nat.le_of_ble_eq_true rfl) (k_i (fun z2 g2 y2 q2 => ?_))
    obtain ⟨e12, I2⟩ := K2 z2 g2 q2
    subst e12
    refine pw_icmp_eq (t := 1195) (pc := 1165) dL_law_1165 (by decide) y1 y1 (fun _ => ?_) (fun c => absurd rfl c)
    exact J cs ss l5 l6 _ I2 (by omega) (by omega)

set_option maxHeartbeats 4000000 in
set_option maxRecDepth 100000 in
theorem law_c26 {G : GT_} (hC : okC_ G) (hM : okM_ G) (hO : 2000 ∈ gi_ G) (hX : gX_ G) {sb L : Nat} {xs : Nat → Int32} (hS : gS_ G sb L xs) (hL : L ≤ 3584) {i : Int} {cs ss : Nat} {l5 l6 : Option Value} {h : PH_} (I0 : INVE_ h) (hi : 0 ≤ i ∧ i ≤ (L : Int) - 7) (hcs : cs + 1 ≤ 601024 ∧ ss + 6 ≤ 7293033) (J : ∀ (cs1 ss1 : Nat) (l5 l6 : Option Value) (h1 : PH_), INVE_ h1 → cs1 ≤ cs + 1 → ss1 ≤ ss + 6 → PW G RL cL_law 7 (some .boolean) room_1 cs1 ss1 (zl_ G) 1195 [some (.ref sb), some (rr_ G 0), some (rr_ G mo_), some (rr_ G 2000), some (ii_ i), l5, l6] [] h1) : PW G RL cL_law 7 (some .boolean) room_1 cs ss (zl_ G) 1170 [some (.ref sb), some (rr_ G 0), some (rr_ G mo_), some (rr_ G 2000), some (ii_ i), l5, l6] [] h := by
  refine pw_aload_n (z := 0) (pc := 1170) dL_law_1170 rfl rfl ?_
  refine pw_aloadQ_n (q := sb) (pc := 1171) dL_law_1171 rfl rfl ?_
  refine pw_iload (z := i) (pc := 1172) dL_law_1172 rfl ?_
  refine pw_iconst (pc := 1174) dL_law_1174 ?_
  refine pw_iadd (pc := 1175) dL_law_1175 ?_
  refine pw_sld (pc := 1176) dL_law_1176 hS hL (by omega) (by omega) ?_
  obtain ⟨Q1, P1, K1⟩ := pair_count hC hM I0 (sv_ xs (i + 1)) sv_r
  refine pw_callV (c := 11) (o := 0) (As := [ii_ (sv_ xs (i + 1))]) (rest := []) (pc := 1177) dL_law_1177 P1 lL_144 mX11_count vX11_count (hC 0 (by decide)) (show kd_ 0 = 21 by decide +kernel) rfl rfl rfl (by decide) ⟨by show _ ≤ 601024; omega, by show _ ≤ 7293033; omega⟩ (Nat.le_of_ble_eq_true rfl) (k_i (fun z1 g1 y1 q1 => ?_))
  obtain ⟨Q2, P2, K2⟩ := K1 z1 g1 q1
  refine pw_aload_n (z := mo_) (pc := 1180) dL_law_1180 rfl rfl ?_
  refine pw_aloadQ_n (q := sb) (pc := 1181) dL_law_1181 rfl rfl ?_
  refine pw_iload (z := i) (pc := 1182) dL_law_1182 rfl ?_
  refine pw_iconst (pc := 1184) dL_law_1184 ?_
  refine pw_iadd (pc := 1185) dL_law_1185 ?_
  refine pw_sld (pc := 1186) dL_law_1186 hS hL (by omega) (by omega) ?_
  refine pw_callV (c := 12) (o := mo_) (As := [ii_ (sv_ xs (i + 1))]) (rest := [ii_ z1]) (pc := 1187) dL_law_1187 P2 lL_147 mX12_count vX12_count (im_mo_ hM) k_mo_ rfl rfl rfl (by decide) ⟨by show _ ≤ 601024; omega, by show _ ≤ 7293033; omega⟩ (Nat.le_of_ble_eq_true rfl) (k_i (fun z2 g2 y2 q2 => ?_))
  obtain ⟨e12, I2⟩ := K2 z2 g2 q2
  subst e12
  refine pw_icmp_eq (t := 1195) (pc := 1190) dL_law_1190 (by decide) y1 y1 (fun _ => ?_) (fun c => absurd rfl c)
  exact J cs ss l5 l6 _ I2 (by omega) (by omega)

