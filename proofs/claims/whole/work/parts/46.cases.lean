theorem RInv.frC {M M2 : Mm} {s : St} (h : RInv M s) (hf : FrC M M2) : RInv M2 s := h.sm hf (by decide)
theorem CInv.frR {M M2 : Mm} {s : St} (h : CInv M s) (hf : FrR M M2) : CInv M2 s := h.sm hf (by decide)
theorem lg_eq0 (x : Int64) : lg_cmp x x = 0 := by
  unfold lg_cmp
  rw [if_neg (fun h => by have := Int64.lt_iff_toInt_lt.mp h; omega)]
  first | rfl | (rw [if_pos rfl]) | (rw [if_neg (fun h => by have := Int64.lt_iff_toInt_lt.mp h; omega)]) | simp
set_option maxHeartbeats 1000000 in
set_option maxRecDepth 100000 in
theorem law_reel {X : Ctx} {bs N0 : Nat} {xs : Nat → Int32} (C : Cx X cL_law RL 4 room_1) (S : Sc X bs N0 xs) (hN : N0 < 2 ^ 31) {i : Nat} (hi : i + 6 ≤ N0) {w : Bool} {M : Mm} {n P cnt : Nat → Nat} {k : Nat} {W : Nat → Nat → Int32} {pv : Nat → Nat} {L R H : Nat} {z : Nat → Int32} {g : Nat} {q : Nat → Nat → Nat} (hC : CInv M (n, P, cnt, k, W, pv, L, R, H, z, g, q)) (hR : RInv M (n, P, cnt, k, W, pv, L, R, H, z, g, q)) (kb : ∀ w2 M2 s2, CInv M2 s2 → RInv M2 s2 → Wl X bs (46, 53200) 921 [(0, .null), (1, .ref 0), (2, .ref 25), (3, .int (nI i))] [] (shF w2) M2) : Wl X bs (46, 53200) 144 [(0, .null), (1, .ref 0), (2, .ref 25), (3, .int (nI i))] [] (shF w) M := by
  refine e_Laload C dL_law_144 rfl rfl ?_
  refine e_Larg (j := 1) C S (by decide) (by omega) hN dL_law_145 dL_law_146 dL_law_147 dL_law_148 dL_law_149 ?_
  refine e_Larg (j := 2) C S (by decide) (by omega) hN dL_law_150 dL_law_151 dL_law_152 dL_law_153 dL_law_154 ?_
  refine e_LcallVi (rest := []) C dL_law_155 [.int (xs (i + 1)), .int (xs (i + 2))] (p_reel hC (xs (i + 1)) (xs (i + 2))) okX7_reel lL_13 rfl rfl rfl (fun _ _ => rfl) ⟨rfl, rfl⟩ ⟨Nat.le_of_ble_eq_true rfl, Nat.le_of_ble_eq_true rfl⟩ (Nat.le_of_ble_eq_true rfl) ⟨Nat.le_of_ble_eq_true rfl, Nat.le_of_ble_eq_true rfl⟩ (fun M1 hM1 => ?_)
  have hR1 := hR.frC hM1.2
  refine e_Laload C dL_law_158 rfl rfl ?_
  refine e_Larg (j := 1) C S (by decide) (by omega) hN dL_law_159 dL_law_160 dL_law_161 dL_law_162 dL_law_163 ?_
  refine e_Larg (j := 2) C S (by decide) (by omega) hN dL_law_164 dL_law_165 dL_law_166 dL_law_167 dL_law_168 ?_
  refine e_LcallVi (rest := [.int (spReel (n, P, cnt, k, W, pv, L, R, H, z, g, q) (xs (i + 1)) (xs (i + 2))).1]) C dL_law_169 [.int (xs (i + 1)), .int (xs (i + 2))] (q_reel hR1 (xs (i + 1)) (xs (i + 2))) okX8_reel lL_17 rfl rfl rfl (fun _ _ => rfl) ⟨rfl, rfl⟩ ⟨Nat.le_of_ble_eq_true rfl, Nat.le_of_ble_eq_true rfl⟩ (Nat.le_of_ble_eq_true rfl) ⟨Nat.le_of_ble_eq_true rfl, Nat.le_of_ble_eq_true rfl⟩ (fun M2 hM2 => ?_)
  have hb9 := kb w M2 _ (hM1.1.frR hM2.2) hM2.1
  exact e_Licmp_eq (tgt := 921) C dL_law_172 (by decide) (fun _ => hb9) (fun h => absurd rfl h)
set_option maxHeartbeats 1000000 in
set_option maxRecDepth 100000 in
theorem law_picture {X : Ctx} {bs N0 : Nat} {xs : Nat → Int32} (C : Cx X cL_law RL 4 room_1) (S : Sc X bs N0 xs) (hN : N0 < 2 ^ 31) {i : Nat} (hi : i + 6 ≤ N0) {w : Bool} {M : Mm} {n P cnt : Nat → Nat} {k : Nat} {W : Nat → Nat → Int32} {pv : Nat → Nat} {L R H : Nat} {z : Nat → Int32} {g : Nat} {q : Nat → Nat → Nat} (hC : CInv M (n, P, cnt, k, W, pv, L, R, H, z, g, q)) (hR : RInv M (n, P, cnt, k, W, pv, L, R, H, z, g, q)) (kb : ∀ w2 M2 s2, CInv M2 s2 → RInv M2 s2 → Wl X bs (46, 53200) 921 [(0, .null), (1, .ref 0), (2, .ref 25), (3, .int (nI i))] [] (shF w2) M2) : Wl X bs (46, 53200) 177 [(0, .null), (1, .ref 0), (2, .ref 25), (3, .int (nI i))] [] (shF w) M := by
  refine e_Laload C dL_law_177 rfl rfl ?_
  refine e_Larg (j := 1) C S (by decide) (by omega) hN dL_law_178 dL_law_179 dL_law_180 dL_law_181 dL_law_182 ?_
  refine e_Larg (j := 2) C S (by decide) (by omega) hN dL_law_183 dL_law_184 dL_law_185 dL_law_186 dL_law_187 ?_
  refine e_Larg (j := 3) C S (by decide) (by omega) hN dL_law_188 dL_law_189 dL_law_190 dL_law_191 dL_law_192 ?_
  refine e_LcallVi (rest := []) C dL_law_193 [.int (xs (i + 1)), .int (xs (i + 2)), .int (xs (i + 3))] (p_picture hC (xs (i + 1)) (xs (i + 2)) (xs (i + 3))) okX7_picture lL_18 rfl rfl rfl (fun _ _ => rfl) ⟨rfl, rfl⟩ ⟨Nat.le_of_ble_eq_true rfl, Nat.le_of_ble_eq_true rfl⟩ (Nat.le_of_ble_eq_true rfl) ⟨Nat.le_of_ble_eq_true rfl, Nat.le_of_ble_eq_true rfl⟩ (fun M1 hM1 => ?_)
  have hR1 := hR.frC hM1.2
  refine e_Laload C dL_law_196 rfl rfl ?_
  refine e_Larg (j := 1) C S (by decide) (by omega) hN dL_law_197 dL_law_198 dL_law_199 dL_law_200 dL_law_201 ?_
  refine e_Larg (j := 2) C S (by decide) (by omega) hN dL_law_202 dL_law_203 dL_law_204 dL_law_205 dL_law_206 ?_
  refine e_Larg (j := 3) C S (by decide) (by omega) hN dL_law_207 dL_law_208 dL_law_209 dL_law_210 dL_law_211 ?_
  refine e_LcallVi (rest := [.int (spPicture (n, P, cnt, k, W, pv, L, R, H, z, g, q) (xs (i + 1)) (xs (i + 2)) (xs (i + 3))).1]) C dL_law_212 [.int (xs (i + 1)), .int (xs (i + 2)), .int (xs (i + 3))] (q_picture hR1 (xs (i + 1)) (xs (i + 2)) (xs (i + 3))) okX8_picture lL_22 rfl rfl rfl (fun _ _ => rfl) ⟨rfl, rfl⟩ ⟨Nat.le_of_ble_eq_true rfl, Nat.le_of_ble_eq_true rfl⟩ (Nat.le_of_ble_eq_true rfl) ⟨Nat.le_of_ble_eq_true rfl, Nat.le_of_ble_eq_true rfl⟩ (fun M2 hM2 => ?_)
  have hb9 := kb w M2 _ (hM1.1.frR hM2.2) hM2.1
  exact e_Licmp_eq (tgt := 921) C dL_law_215 (by decide) (fun _ => hb9) (fun h => absurd rfl h)
set_option maxHeartbeats 1000000 in
set_option maxRecDepth 100000 in
theorem law_at {X : Ctx} {bs N0 : Nat} {xs : Nat → Int32} (C : Cx X cL_law RL 4 room_1) (S : Sc X bs N0 xs) (hN : N0 < 2 ^ 31) {i : Nat} (hi : i + 6 ≤ N0) {w : Bool} {M : Mm} {n P cnt : Nat → Nat} {k : Nat} {W : Nat → Nat → Int32} {pv : Nat → Nat} {L R H : Nat} {z : Nat → Int32} {g : Nat} {q : Nat → Nat → Nat} (hC : CInv M (n, P, cnt, k, W, pv, L, R, H, z, g, q)) (hR : RInv M (n, P, cnt, k, W, pv, L, R, H, z, g, q)) (kb : ∀ w2 M2 s2, CInv M2 s2 → RInv M2 s2 → Wl X bs (46, 53200) 921 [(0, .null), (1, .ref 0), (2, .ref 25), (3, .int (nI i))] [] (shF w2) M2) : Wl X bs (46, 53200) 220 [(0, .null), (1, .ref 0), (2, .ref 25), (3, .int (nI i))] [] (shF w) M := by
  refine e_Laload C dL_law_220 rfl rfl ?_
  refine e_Larg (j := 1) C S (by decide) (by omega) hN dL_law_221 dL_law_222 dL_law_223 dL_law_224 dL_law_225 ?_
  refine e_Larg (j := 2) C S (by decide) (by omega) hN dL_law_226 dL_law_227 dL_law_228 dL_law_229 dL_law_230 ?_
  refine e_LcallVi (rest := []) C dL_law_231 [.int (xs (i + 1)), .int (xs (i + 2))] (p_at hC (xs (i + 1)) (xs (i + 2))) okX7_at lL_23 rfl rfl rfl (fun _ _ => rfl) ⟨rfl, rfl⟩ ⟨Nat.le_of_ble_eq_true rfl, Nat.le_of_ble_eq_true rfl⟩ (Nat.le_of_ble_eq_true rfl) ⟨Nat.le_of_ble_eq_true rfl, Nat.le_of_ble_eq_true rfl⟩ (fun M1 hM1 => ?_)
  have hR1 := hR.frC hM1.2
  refine e_Laload C dL_law_234 rfl rfl ?_
  refine e_Larg (j := 1) C S (by decide) (by omega) hN dL_law_235 dL_law_236 dL_law_237 dL_law_238 dL_law_239 ?_
  refine e_Larg (j := 2) C S (by decide) (by omega) hN dL_law_240 dL_law_241 dL_law_242 dL_law_243 dL_law_244 ?_
  refine e_LcallVi (rest := [.int (spAt (n, P, cnt, k, W, pv, L, R, H, z, g, q) (xs (i + 1)) (xs (i + 2))).1]) C dL_law_245 [.int (xs (i + 1)), .int (xs (i + 2))] (q_at hR1 (xs (i + 1)) (xs (i + 2))) okX8_at lL_26 rfl rfl rfl (fun _ _ => rfl) ⟨rfl, rfl⟩ ⟨Nat.le_of_ble_eq_true rfl, Nat.le_of_ble_eq_true rfl⟩ (Nat.le_of_ble_eq_true rfl) ⟨Nat.le_of_ble_eq_true rfl, Nat.le_of_ble_eq_true rfl⟩ (fun M2 hM2 => ?_)
  have hb9 := kb w M2 _ (hM1.1.frR hM2.2) hM2.1
  exact e_Licmp_eq (tgt := 921) C dL_law_248 (by decide) (fun _ => hb9) (fun h => absurd rfl h)
set_option maxHeartbeats 1000000 in
set_option maxRecDepth 100000 in
theorem law_count {X : Ctx} {bs N0 : Nat} {xs : Nat → Int32} (C : Cx X cL_law RL 4 room_1) (S : Sc X bs N0 xs) (hN : N0 < 2 ^ 31) {i : Nat} (hi : i + 6 ≤ N0) {w : Bool} {M : Mm} {n P cnt : Nat → Nat} {k : Nat} {W : Nat → Nat → Int32} {pv : Nat → Nat} {L R H : Nat} {z : Nat → Int32} {g : Nat} {q : Nat → Nat → Nat} (hC : CInv M (n, P, cnt, k, W, pv, L, R, H, z, g, q)) (hR : RInv M (n, P, cnt, k, W, pv, L, R, H, z, g, q)) (kb : ∀ w2 M2 s2, CInv M2 s2 → RInv M2 s2 → Wl X bs (46, 53200) 921 [(0, .null), (1, .ref 0), (2, .ref 25), (3, .int (nI i))] [] (shF w2) M2) : Wl X bs (46, 53200) 253 [(0, .null), (1, .ref 0), (2, .ref 25), (3, .int (nI i))] [] (shF w) M := by
  refine e_Laload C dL_law_253 rfl rfl ?_
  refine e_Larg (j := 1) C S (by decide) (by omega) hN dL_law_254 dL_law_255 dL_law_256 dL_law_257 dL_law_258 ?_
  refine e_Larg (j := 2) C S (by decide) (by omega) hN dL_law_259 dL_law_260 dL_law_261 dL_law_262 dL_law_263 ?_
  refine e_LcallVi (rest := []) C dL_law_264 [.int (xs (i + 1)), .int (xs (i + 2))] (p_count hC (xs (i + 1)) (xs (i + 2))) okX7_count lL_27 rfl rfl rfl (fun _ _ => rfl) ⟨rfl, rfl⟩ ⟨Nat.le_of_ble_eq_true rfl, Nat.le_of_ble_eq_true rfl⟩ (Nat.le_of_ble_eq_true rfl) ⟨Nat.le_of_ble_eq_true rfl, Nat.le_of_ble_eq_true rfl⟩ (fun M1 hM1 => ?_)
  have hR1 := hR.frC hM1.2
  refine e_Laload C dL_law_267 rfl rfl ?_
  refine e_Larg (j := 1) C S (by decide) (by omega) hN dL_law_268 dL_law_269 dL_law_270 dL_law_271 dL_law_272 ?_
  refine e_Larg (j := 2) C S (by decide) (by omega) hN dL_law_273 dL_law_274 dL_law_275 dL_law_276 dL_law_277 ?_
  refine e_LcallVi (rest := [.int (spCount (n, P, cnt, k, W, pv, L, R, H, z, g, q) (xs (i + 1)) (xs (i + 2))).1]) C dL_law_278 [.int (xs (i + 1)), .int (xs (i + 2))] (q_count hR1 (xs (i + 1)) (xs (i + 2))) okX8_count lL_30 rfl rfl rfl (fun _ _ => rfl) ⟨rfl, rfl⟩ ⟨Nat.le_of_ble_eq_true rfl, Nat.le_of_ble_eq_true rfl⟩ (Nat.le_of_ble_eq_true rfl) ⟨Nat.le_of_ble_eq_true rfl, Nat.le_of_ble_eq_true rfl⟩ (fun M2 hM2 => ?_)
  have hb9 := kb w M2 _ (hM1.1.frR hM2.2) hM2.1
  exact e_Licmp_eq (tgt := 921) C dL_law_281 (by decide) (fun _ => hb9) (fun h => absurd rfl h)
set_option maxHeartbeats 1000000 in
set_option maxRecDepth 100000 in
theorem law_lay {X : Ctx} {bs N0 : Nat} {xs : Nat → Int32} (C : Cx X cL_law RL 4 room_1) (S : Sc X bs N0 xs) (hN : N0 < 2 ^ 31) {i : Nat} (hi : i + 6 ≤ N0) {w : Bool} {M : Mm} {n P cnt : Nat → Nat} {k : Nat} {W : Nat → Nat → Int32} {pv : Nat → Nat} {L R H : Nat} {z : Nat → Int32} {g : Nat} {q : Nat → Nat → Nat} (hC : CInv M (n, P, cnt, k, W, pv, L, R, H, z, g, q)) (hR : RInv M (n, P, cnt, k, W, pv, L, R, H, z, g, q)) (kb : ∀ w2 M2 s2, CInv M2 s2 → RInv M2 s2 → Wl X bs (46, 53200) 921 [(0, .null), (1, .ref 0), (2, .ref 25), (3, .int (nI i))] [] (shF w2) M2) : Wl X bs (46, 53200) 286 [(0, .null), (1, .ref 0), (2, .ref 25), (3, .int (nI i))] [] (shF w) M := by
  refine e_Laload C dL_law_286 rfl rfl ?_
  refine e_Larg (j := 1) C S (by decide) (by omega) hN dL_law_287 dL_law_288 dL_law_289 dL_law_290 dL_law_291 ?_
  refine e_LcallVi (rest := []) C dL_law_292 [.int (xs (i + 1))] (p_lay hC (xs (i + 1))) okX7_lay lL_31 rfl rfl rfl (fun _ _ => rfl) ⟨rfl, rfl⟩ ⟨Nat.le_of_ble_eq_true rfl, Nat.le_of_ble_eq_true rfl⟩ (Nat.le_of_ble_eq_true rfl) ⟨Nat.le_of_ble_eq_true rfl, Nat.le_of_ble_eq_true rfl⟩ (fun M1 hM1 => ?_)
  have hR1 := hR.frC hM1.2
  refine e_Laload C dL_law_295 rfl rfl ?_
  refine e_Larg (j := 1) C S (by decide) (by omega) hN dL_law_296 dL_law_297 dL_law_298 dL_law_299 dL_law_300 ?_
  refine e_LcallVi (rest := [.int (spLay (n, P, cnt, k, W, pv, L, R, H, z, g, q) (xs (i + 1))).1]) C dL_law_301 [.int (xs (i + 1))] (q_lay hR1 (xs (i + 1))) okX8_lay lL_35 rfl rfl rfl (fun _ _ => rfl) ⟨rfl, rfl⟩ ⟨Nat.le_of_ble_eq_true rfl, Nat.le_of_ble_eq_true rfl⟩ (Nat.le_of_ble_eq_true rfl) ⟨Nat.le_of_ble_eq_true rfl, Nat.le_of_ble_eq_true rfl⟩ (fun M2 hM2 => ?_)
  have hb9 := kb w M2 _ (hM1.1.frR hM2.2) hM2.1
  exact e_Licmp_eq (tgt := 921) C dL_law_304 (by decide) (fun _ => hb9) (fun h => absurd rfl h)
set_option maxHeartbeats 1000000 in
set_option maxRecDepth 100000 in
theorem law_pay {X : Ctx} {bs N0 : Nat} {xs : Nat → Int32} (C : Cx X cL_law RL 4 room_1) (S : Sc X bs N0 xs) (hN : N0 < 2 ^ 31) {i : Nat} (hi : i + 6 ≤ N0) {w : Bool} {M : Mm} {n P cnt : Nat → Nat} {k : Nat} {W : Nat → Nat → Int32} {pv : Nat → Nat} {L R H : Nat} {z : Nat → Int32} {g : Nat} {q : Nat → Nat → Nat} (hC : CInv M (n, P, cnt, k, W, pv, L, R, H, z, g, q)) (hR : RInv M (n, P, cnt, k, W, pv, L, R, H, z, g, q)) (kb : ∀ w2 M2 s2, CInv M2 s2 → RInv M2 s2 → Wl X bs (46, 53200) 921 [(0, .null), (1, .ref 0), (2, .ref 25), (3, .int (nI i))] [] (shF w2) M2) : Wl X bs (46, 53200) 309 [(0, .null), (1, .ref 0), (2, .ref 25), (3, .int (nI i))] [] (shF w) M := by
  refine e_Laload C dL_law_309 rfl rfl ?_
  refine e_Larg (j := 1) C S (by decide) (by omega) hN dL_law_310 dL_law_311 dL_law_312 dL_law_313 dL_law_314 ?_
  refine e_Larg (j := 2) C S (by decide) (by omega) hN dL_law_315 dL_law_316 dL_law_317 dL_law_318 dL_law_319 ?_
  refine e_Larg (j := 3) C S (by decide) (by omega) hN dL_law_320 dL_law_321 dL_law_322 dL_law_323 dL_law_324 ?_
  refine e_Larg (j := 4) C S (by decide) (by omega) hN dL_law_325 dL_law_326 dL_law_327 dL_law_328 dL_law_329 ?_
  refine e_LcallVi (rest := []) C dL_law_330 [.int (xs (i + 1)), .int (xs (i + 2)), .int (xs (i + 3)), .int (xs (i + 4))] (p_pay hC (xs (i + 1)) (xs (i + 2)) (xs (i + 3)) (xs (i + 4))) okX7_pay lL_36 rfl rfl rfl (fun _ _ => rfl) ⟨rfl, rfl⟩ ⟨Nat.le_of_ble_eq_true rfl, Nat.le_of_ble_eq_true rfl⟩ (Nat.le_of_ble_eq_true rfl) ⟨Nat.le_of_ble_eq_true rfl, Nat.le_of_ble_eq_true rfl⟩ (fun M1 hM1 => ?_)
  have hR1 := hR.frC hM1.2
  refine e_Laload C dL_law_333 rfl rfl ?_
  refine e_Larg (j := 1) C S (by decide) (by omega) hN dL_law_334 dL_law_335 dL_law_336 dL_law_337 dL_law_338 ?_
  refine e_Larg (j := 2) C S (by decide) (by omega) hN dL_law_339 dL_law_340 dL_law_341 dL_law_342 dL_law_343 ?_
  refine e_Larg (j := 3) C S (by decide) (by omega) hN dL_law_344 dL_law_345 dL_law_346 dL_law_347 dL_law_348 ?_
  refine e_Larg (j := 4) C S (by decide) (by omega) hN dL_law_349 dL_law_350 dL_law_351 dL_law_352 dL_law_353 ?_
  refine e_LcallVi (rest := [.int (spPay (n, P, cnt, k, W, pv, L, R, H, z, g, q) (xs (i + 1)) (xs (i + 2)) (xs (i + 3)) (xs (i + 4))).1]) C dL_law_354 [.int (xs (i + 1)), .int (xs (i + 2)), .int (xs (i + 3)), .int (xs (i + 4))] (q_pay hR1 (xs (i + 1)) (xs (i + 2)) (xs (i + 3)) (xs (i + 4))) okX8_pay lL_40 rfl rfl rfl (fun _ _ => rfl) ⟨rfl, rfl⟩ ⟨Nat.le_of_ble_eq_true rfl, Nat.le_of_ble_eq_true rfl⟩ (Nat.le_of_ble_eq_true rfl) ⟨Nat.le_of_ble_eq_true rfl, Nat.le_of_ble_eq_true rfl⟩ (fun M2 hM2 => ?_)
  have hb9 := kb w M2 _ (hM1.1.frR hM2.2) hM2.1
  exact e_Licmp_eq (tgt := 921) C dL_law_357 (by decide) (fun _ => hb9) (fun h => absurd rfl h)
set_option maxHeartbeats 1000000 in
set_option maxRecDepth 100000 in
theorem law_clear {X : Ctx} {bs N0 : Nat} {xs : Nat → Int32} (C : Cx X cL_law RL 4 room_1) (S : Sc X bs N0 xs) (hN : N0 < 2 ^ 31) {i : Nat} (hi : i + 6 ≤ N0) {w : Bool} {M : Mm} {n P cnt : Nat → Nat} {k : Nat} {W : Nat → Nat → Int32} {pv : Nat → Nat} {L R H : Nat} {z : Nat → Int32} {g : Nat} {q : Nat → Nat → Nat} (hC : CInv M (n, P, cnt, k, W, pv, L, R, H, z, g, q)) (hR : RInv M (n, P, cnt, k, W, pv, L, R, H, z, g, q)) (kb : ∀ w2 M2 s2, CInv M2 s2 → RInv M2 s2 → Wl X bs (46, 53200) 921 [(0, .null), (1, .ref 0), (2, .ref 25), (3, .int (nI i))] [] (shF w2) M2) : Wl X bs (46, 53200) 362 [(0, .null), (1, .ref 0), (2, .ref 25), (3, .int (nI i))] [] (shF w) M := by
  refine e_Laload C dL_law_362 rfl rfl ?_
  refine e_LcallVi (rest := []) C dL_law_363 [] (p_clear hC) okX7_clear lL_41 rfl rfl rfl (fun _ _ => rfl) ⟨rfl, rfl⟩ ⟨Nat.le_of_ble_eq_true rfl, Nat.le_of_ble_eq_true rfl⟩ (Nat.le_of_ble_eq_true rfl) ⟨Nat.le_of_ble_eq_true rfl, Nat.le_of_ble_eq_true rfl⟩ (fun M1 hM1 => ?_)
  have hR1 := hR.frC hM1.2
  refine e_Laload C dL_law_366 rfl rfl ?_
  refine e_LcallVi (rest := [.int (spClear (n, P, cnt, k, W, pv, L, R, H, z, g, q)).1]) C dL_law_367 [] (q_clear hR1) okX8_clear lL_45 rfl rfl rfl (fun _ _ => rfl) ⟨rfl, rfl⟩ ⟨Nat.le_of_ble_eq_true rfl, Nat.le_of_ble_eq_true rfl⟩ (Nat.le_of_ble_eq_true rfl) ⟨Nat.le_of_ble_eq_true rfl, Nat.le_of_ble_eq_true rfl⟩ (fun M2 hM2 => ?_)
  have hb9 := kb w M2 _ (hM1.1.frR hM2.2) hM2.1
  exact e_Licmp_eq (tgt := 921) C dL_law_370 (by decide) (fun _ => hb9) (fun h => absurd rfl h)
set_option maxHeartbeats 1000000 in
set_option maxRecDepth 100000 in
theorem law_lines {X : Ctx} {bs N0 : Nat} {xs : Nat → Int32} (C : Cx X cL_law RL 4 room_1) (S : Sc X bs N0 xs) (hN : N0 < 2 ^ 31) {i : Nat} (hi : i + 6 ≤ N0) {w : Bool} {M : Mm} {n P cnt : Nat → Nat} {k : Nat} {W : Nat → Nat → Int32} {pv : Nat → Nat} {L R H : Nat} {z : Nat → Int32} {g : Nat} {q : Nat → Nat → Nat} (hC : CInv M (n, P, cnt, k, W, pv, L, R, H, z, g, q)) (hR : RInv M (n, P, cnt, k, W, pv, L, R, H, z, g, q)) (kb : ∀ w2 M2 s2, CInv M2 s2 → RInv M2 s2 → Wl X bs (46, 53200) 921 [(0, .null), (1, .ref 0), (2, .ref 25), (3, .int (nI i))] [] (shF w2) M2) : Wl X bs (46, 53200) 375 [(0, .null), (1, .ref 0), (2, .ref 25), (3, .int (nI i))] [] (shF w) M := by
  refine e_Laload C dL_law_375 rfl rfl ?_
  refine e_Larg (j := 1) C S (by decide) (by omega) hN dL_law_376 dL_law_377 dL_law_378 dL_law_379 dL_law_380 ?_
  refine e_LcallVi (rest := []) C dL_law_381 [.int (xs (i + 1))] (p_lines hC (xs (i + 1))) okX7_lines lL_46 rfl rfl rfl (fun _ _ => rfl) ⟨rfl, rfl⟩ ⟨Nat.le_of_ble_eq_true rfl, Nat.le_of_ble_eq_true rfl⟩ (Nat.le_of_ble_eq_true rfl) ⟨Nat.le_of_ble_eq_true rfl, Nat.le_of_ble_eq_true rfl⟩ (fun M1 hM1 => ?_)
  have hR1 := hR.frC hM1.2
  refine e_Laload C dL_law_384 rfl rfl ?_
  refine e_Larg (j := 1) C S (by decide) (by omega) hN dL_law_385 dL_law_386 dL_law_387 dL_law_388 dL_law_389 ?_
  refine e_LcallVi (rest := [.int (spLines (n, P, cnt, k, W, pv, L, R, H, z, g, q) (xs (i + 1))).1]) C dL_law_390 [.int (xs (i + 1))] (q_lines hR1 (xs (i + 1))) okX8_lines lL_49 rfl rfl rfl (fun _ _ => rfl) ⟨rfl, rfl⟩ ⟨Nat.le_of_ble_eq_true rfl, Nat.le_of_ble_eq_true rfl⟩ (Nat.le_of_ble_eq_true rfl) ⟨Nat.le_of_ble_eq_true rfl, Nat.le_of_ble_eq_true rfl⟩ (fun M2 hM2 => ?_)
  have hb9 := kb w M2 _ (hM1.1.frR hM2.2) hM2.1
  exact e_Licmp_eq (tgt := 921) C dL_law_393 (by decide) (fun _ => hb9) (fun h => absurd rfl h)
set_option maxHeartbeats 1000000 in
set_option maxRecDepth 100000 in
theorem law_ending {X : Ctx} {bs N0 : Nat} {xs : Nat → Int32} (C : Cx X cL_law RL 4 room_1) (S : Sc X bs N0 xs) (hN : N0 < 2 ^ 31) {i : Nat} (hi : i + 6 ≤ N0) {w : Bool} {M : Mm} {n P cnt : Nat → Nat} {k : Nat} {W : Nat → Nat → Int32} {pv : Nat → Nat} {L R H : Nat} {z : Nat → Int32} {g : Nat} {q : Nat → Nat → Nat} (hC : CInv M (n, P, cnt, k, W, pv, L, R, H, z, g, q)) (hR : RInv M (n, P, cnt, k, W, pv, L, R, H, z, g, q)) (kb : ∀ w2 M2 s2, CInv M2 s2 → RInv M2 s2 → Wl X bs (46, 53200) 921 [(0, .null), (1, .ref 0), (2, .ref 25), (3, .int (nI i))] [] (shF w2) M2) : Wl X bs (46, 53200) 398 [(0, .null), (1, .ref 0), (2, .ref 25), (3, .int (nI i))] [] (shF w) M := by
  refine e_Laload C dL_law_398 rfl rfl ?_
  refine e_Larg (j := 1) C S (by decide) (by omega) hN dL_law_399 dL_law_400 dL_law_401 dL_law_402 dL_law_403 ?_
  refine e_Larg (j := 2) C S (by decide) (by omega) hN dL_law_404 dL_law_405 dL_law_406 dL_law_407 dL_law_408 ?_
  refine e_Larg (j := 3) C S (by decide) (by omega) hN dL_law_409 dL_law_410 dL_law_411 dL_law_412 dL_law_413 ?_
  refine e_LcallVi (rest := []) C dL_law_414 [.int (xs (i + 1)), .int (xs (i + 2)), .int (xs (i + 3))] (p_ending hC (xs (i + 1)) (xs (i + 2)) (xs (i + 3))) okX7_ending lL_50 rfl rfl rfl (fun _ _ => rfl) ⟨rfl, rfl⟩ ⟨Nat.le_of_ble_eq_true rfl, Nat.le_of_ble_eq_true rfl⟩ (Nat.le_of_ble_eq_true rfl) ⟨Nat.le_of_ble_eq_true rfl, Nat.le_of_ble_eq_true rfl⟩ (fun M1 hM1 => ?_)
  have hR1 := hR.frC hM1.2
  refine e_Laload C dL_law_417 rfl rfl ?_
  refine e_Larg (j := 1) C S (by decide) (by omega) hN dL_law_418 dL_law_419 dL_law_420 dL_law_421 dL_law_422 ?_
  refine e_Larg (j := 2) C S (by decide) (by omega) hN dL_law_423 dL_law_424 dL_law_425 dL_law_426 dL_law_427 ?_
  refine e_Larg (j := 3) C S (by decide) (by omega) hN dL_law_428 dL_law_429 dL_law_430 dL_law_431 dL_law_432 ?_
  refine e_LcallVi (rest := [.int (spEnding (n, P, cnt, k, W, pv, L, R, H, z, g, q) (xs (i + 1)) (xs (i + 2)) (xs (i + 3))).1]) C dL_law_433 [.int (xs (i + 1)), .int (xs (i + 2)), .int (xs (i + 3))] (q_ending hR1 (xs (i + 1)) (xs (i + 2)) (xs (i + 3))) okX8_ending lL_53 rfl rfl rfl (fun _ _ => rfl) ⟨rfl, rfl⟩ ⟨Nat.le_of_ble_eq_true rfl, Nat.le_of_ble_eq_true rfl⟩ (Nat.le_of_ble_eq_true rfl) ⟨Nat.le_of_ble_eq_true rfl, Nat.le_of_ble_eq_true rfl⟩ (fun M2 hM2 => ?_)
  have hb9 := kb w M2 _ (hM1.1.frR hM2.2) hM2.1
  exact e_Licmp_eq (tgt := 921) C dL_law_436 (by decide) (fun _ => hb9) (fun h => absurd rfl h)
set_option maxHeartbeats 1000000 in
set_option maxRecDepth 100000 in
theorem law_all {X : Ctx} {bs N0 : Nat} {xs : Nat → Int32} (C : Cx X cL_law RL 4 room_1) (S : Sc X bs N0 xs) (hN : N0 < 2 ^ 31) {i : Nat} (hi : i + 6 ≤ N0) {w : Bool} {M : Mm} {n P cnt : Nat → Nat} {k : Nat} {W : Nat → Nat → Int32} {pv : Nat → Nat} {L R H : Nat} {z : Nat → Int32} {g : Nat} {q : Nat → Nat → Nat} (hC : CInv M (n, P, cnt, k, W, pv, L, R, H, z, g, q)) (hR : RInv M (n, P, cnt, k, W, pv, L, R, H, z, g, q)) (kb : ∀ w2 M2 s2, CInv M2 s2 → RInv M2 s2 → Wl X bs (46, 53200) 921 [(0, .null), (1, .ref 0), (2, .ref 25), (3, .int (nI i))] [] (shF w2) M2) : Wl X bs (46, 53200) 441 [(0, .null), (1, .ref 0), (2, .ref 25), (3, .int (nI i))] [] (shF w) M := by
  refine e_Laload C dL_law_441 rfl rfl ?_
  refine e_Larg (j := 1) C S (by decide) (by omega) hN dL_law_442 dL_law_443 dL_law_444 dL_law_445 dL_law_446 ?_
  refine e_LcallVl (rest := []) C dL_law_447 [.int (xs (i + 1))] (p_all hC (xs (i + 1))) okX7_all lL_54 rfl rfl rfl (fun _ _ => rfl) ⟨rfl, rfl⟩ ⟨Nat.le_of_ble_eq_true rfl, Nat.le_of_ble_eq_true rfl⟩ (Nat.le_of_ble_eq_true rfl) ⟨Nat.le_of_ble_eq_true rfl, Nat.le_of_ble_eq_true rfl⟩ (fun M1 hM1 => ?_)
  have hR1 := hR.frC hM1.2
  refine e_Laload C dL_law_450 rfl rfl ?_
  refine e_Larg (j := 1) C S (by decide) (by omega) hN dL_law_451 dL_law_452 dL_law_453 dL_law_454 dL_law_455 ?_
  refine e_LcallVl (rest := [.long (spAll (n, P, cnt, k, W, pv, L, R, H, z, g, q) (xs (i + 1))).1]) C dL_law_456 [.int (xs (i + 1))] (q_all hR1 (xs (i + 1))) okX8_all lL_58 rfl rfl rfl (fun _ _ => rfl) ⟨rfl, rfl⟩ ⟨Nat.le_of_ble_eq_true rfl, Nat.le_of_ble_eq_true rfl⟩ (Nat.le_of_ble_eq_true rfl) ⟨Nat.le_of_ble_eq_true rfl, Nat.le_of_ble_eq_true rfl⟩ (fun M2 hM2 => ?_)
  have hb9 := kb w M2 _ (hM1.1.frR hM2.2) hM2.1
  refine e_Llcmp C dL_law_459 ?_
  exact e_Lif_eq (tgt := 921) C dL_law_460 (by decide) (fun _ => hb9) (fun h => absurd (lg_eq0 _) h)
set_option maxHeartbeats 1000000 in
set_option maxRecDepth 100000 in
theorem law_rows {X : Ctx} {bs N0 : Nat} {xs : Nat → Int32} (C : Cx X cL_law RL 4 room_1) (S : Sc X bs N0 xs) (hN : N0 < 2 ^ 31) {i : Nat} (hi : i + 6 ≤ N0) {w : Bool} {M : Mm} {n P cnt : Nat → Nat} {k : Nat} {W : Nat → Nat → Int32} {pv : Nat → Nat} {L R H : Nat} {z : Nat → Int32} {g : Nat} {q : Nat → Nat → Nat} (hC : CInv M (n, P, cnt, k, W, pv, L, R, H, z, g, q)) (hR : RInv M (n, P, cnt, k, W, pv, L, R, H, z, g, q)) (kb : ∀ w2 M2 s2, CInv M2 s2 → RInv M2 s2 → Wl X bs (46, 53200) 921 [(0, .null), (1, .ref 0), (2, .ref 25), (3, .int (nI i))] [] (shF w2) M2) : Wl X bs (46, 53200) 465 [(0, .null), (1, .ref 0), (2, .ref 25), (3, .int (nI i))] [] (shF w) M := by
  refine e_Laload C dL_law_465 rfl rfl ?_
  refine e_Larg (j := 1) C S (by decide) (by omega) hN dL_law_466 dL_law_467 dL_law_468 dL_law_469 dL_law_470 ?_
  refine e_LcallVi (rest := []) C dL_law_471 [.int (xs (i + 1))] (p_rows hC (xs (i + 1))) okX7_rows lL_59 rfl rfl rfl (fun _ _ => rfl) ⟨rfl, rfl⟩ ⟨Nat.le_of_ble_eq_true rfl, Nat.le_of_ble_eq_true rfl⟩ (Nat.le_of_ble_eq_true rfl) ⟨Nat.le_of_ble_eq_true rfl, Nat.le_of_ble_eq_true rfl⟩ (fun M1 hM1 => ?_)
  have hR1 := hR.frC hM1.2
  refine e_Laload C dL_law_474 rfl rfl ?_
  refine e_Larg (j := 1) C S (by decide) (by omega) hN dL_law_475 dL_law_476 dL_law_477 dL_law_478 dL_law_479 ?_
  refine e_LcallVi (rest := [.int (spRows (n, P, cnt, k, W, pv, L, R, H, z, g, q) (xs (i + 1))).1]) C dL_law_480 [.int (xs (i + 1))] (q_rows hR1 (xs (i + 1))) okX8_rows lL_62 rfl rfl rfl (fun _ _ => rfl) ⟨rfl, rfl⟩ ⟨Nat.le_of_ble_eq_true rfl, Nat.le_of_ble_eq_true rfl⟩ (Nat.le_of_ble_eq_true rfl) ⟨Nat.le_of_ble_eq_true rfl, Nat.le_of_ble_eq_true rfl⟩ (fun M2 hM2 => ?_)
  have hb9 := kb w M2 _ (hM1.1.frR hM2.2) hM2.1
  exact e_Licmp_eq (tgt := 921) C dL_law_483 (by decide) (fun _ => hb9) (fun h => absurd rfl h)
set_option maxHeartbeats 1000000 in
set_option maxRecDepth 100000 in
theorem law_misses {X : Ctx} {bs N0 : Nat} {xs : Nat → Int32} (C : Cx X cL_law RL 4 room_1) (S : Sc X bs N0 xs) (hN : N0 < 2 ^ 31) {i : Nat} (hi : i + 6 ≤ N0) {w : Bool} {M : Mm} {n P cnt : Nat → Nat} {k : Nat} {W : Nat → Nat → Int32} {pv : Nat → Nat} {L R H : Nat} {z : Nat → Int32} {g : Nat} {q : Nat → Nat → Nat} (hC : CInv M (n, P, cnt, k, W, pv, L, R, H, z, g, q)) (hR : RInv M (n, P, cnt, k, W, pv, L, R, H, z, g, q)) (kb : ∀ w2 M2 s2, CInv M2 s2 → RInv M2 s2 → Wl X bs (46, 53200) 921 [(0, .null), (1, .ref 0), (2, .ref 25), (3, .int (nI i))] [] (shF w2) M2) : Wl X bs (46, 53200) 488 [(0, .null), (1, .ref 0), (2, .ref 25), (3, .int (nI i))] [] (shF w) M := by
  refine e_Laload C dL_law_488 rfl rfl ?_
  refine e_Larg (j := 1) C S (by decide) (by omega) hN dL_law_489 dL_law_490 dL_law_491 dL_law_492 dL_law_493 ?_
  refine e_LcallVi (rest := []) C dL_law_494 [.int (xs (i + 1))] (p_misses hC (xs (i + 1))) okX7_misses lL_63 rfl rfl rfl (fun _ _ => rfl) ⟨rfl, rfl⟩ ⟨Nat.le_of_ble_eq_true rfl, Nat.le_of_ble_eq_true rfl⟩ (Nat.le_of_ble_eq_true rfl) ⟨Nat.le_of_ble_eq_true rfl, Nat.le_of_ble_eq_true rfl⟩ (fun M1 hM1 => ?_)
  have hR1 := hR.frC hM1.2
  refine e_Laload C dL_law_497 rfl rfl ?_
  refine e_Larg (j := 1) C S (by decide) (by omega) hN dL_law_498 dL_law_499 dL_law_500 dL_law_501 dL_law_502 ?_
  refine e_LcallVi (rest := [.int (spMisses (n, P, cnt, k, W, pv, L, R, H, z, g, q) (xs (i + 1))).1]) C dL_law_503 [.int (xs (i + 1))] (q_misses hR1 (xs (i + 1))) okX8_misses lL_66 rfl rfl rfl (fun _ _ => rfl) ⟨rfl, rfl⟩ ⟨Nat.le_of_ble_eq_true rfl, Nat.le_of_ble_eq_true rfl⟩ (Nat.le_of_ble_eq_true rfl) ⟨Nat.le_of_ble_eq_true rfl, Nat.le_of_ble_eq_true rfl⟩ (fun M2 hM2 => ?_)
  have hb9 := kb w M2 _ (hM1.1.frR hM2.2) hM2.1
  exact e_Licmp_eq (tgt := 921) C dL_law_506 (by decide) (fun _ => hb9) (fun h => absurd rfl h)
set_option maxHeartbeats 1000000 in
set_option maxRecDepth 100000 in
theorem law_worth {X : Ctx} {bs N0 : Nat} {xs : Nat → Int32} (C : Cx X cL_law RL 4 room_1) (S : Sc X bs N0 xs) (hN : N0 < 2 ^ 31) {i : Nat} (hi : i + 6 ≤ N0) {w : Bool} {M : Mm} {n P cnt : Nat → Nat} {k : Nat} {W : Nat → Nat → Int32} {pv : Nat → Nat} {L R H : Nat} {z : Nat → Int32} {g : Nat} {q : Nat → Nat → Nat} (hC : CInv M (n, P, cnt, k, W, pv, L, R, H, z, g, q)) (hR : RInv M (n, P, cnt, k, W, pv, L, R, H, z, g, q)) (kb : ∀ w2 M2 s2, CInv M2 s2 → RInv M2 s2 → Wl X bs (46, 53200) 921 [(0, .null), (1, .ref 0), (2, .ref 25), (3, .int (nI i))] [] (shF w2) M2) : Wl X bs (46, 53200) 511 [(0, .null), (1, .ref 0), (2, .ref 25), (3, .int (nI i))] [] (shF w) M := by
  refine e_Laload C dL_law_511 rfl rfl ?_
  refine e_Larg (j := 1) C S (by decide) (by omega) hN dL_law_512 dL_law_513 dL_law_514 dL_law_515 dL_law_516 ?_
  refine e_Larg (j := 2) C S (by decide) (by omega) hN dL_law_517 dL_law_518 dL_law_519 dL_law_520 dL_law_521 ?_
  refine e_Larg (j := 3) C S (by decide) (by omega) hN dL_law_522 dL_law_523 dL_law_524 dL_law_525 dL_law_526 ?_
  refine e_Larg (j := 4) C S (by decide) (by omega) hN dL_law_527 dL_law_528 dL_law_529 dL_law_530 dL_law_531 ?_
  refine e_LcallVl (rest := []) C dL_law_532 [.int (xs (i + 1)), .int (xs (i + 2)), .int (xs (i + 3)), .int (xs (i + 4))] (p_worth hC (xs (i + 1)) (xs (i + 2)) (xs (i + 3)) (xs (i + 4))) okX7_worth lL_67 rfl rfl rfl (fun _ _ => rfl) ⟨rfl, rfl⟩ ⟨Nat.le_of_ble_eq_true rfl, Nat.le_of_ble_eq_true rfl⟩ (Nat.le_of_ble_eq_true rfl) ⟨Nat.le_of_ble_eq_true rfl, Nat.le_of_ble_eq_true rfl⟩ (fun M1 hM1 => ?_)
  have hR1 := hR.frC hM1.2
  refine e_Laload C dL_law_535 rfl rfl ?_
  refine e_Larg (j := 1) C S (by decide) (by omega) hN dL_law_536 dL_law_537 dL_law_538 dL_law_539 dL_law_540 ?_
  refine e_Larg (j := 2) C S (by decide) (by omega) hN dL_law_541 dL_law_542 dL_law_543 dL_law_544 dL_law_545 ?_
  refine e_Larg (j := 3) C S (by decide) (by omega) hN dL_law_546 dL_law_547 dL_law_548 dL_law_549 dL_law_550 ?_
  refine e_Larg (j := 4) C S (by decide) (by omega) hN dL_law_551 dL_law_552 dL_law_553 dL_law_554 dL_law_555 ?_
  refine e_LcallVl (rest := [.long (spWorth (n, P, cnt, k, W, pv, L, R, H, z, g, q) (xs (i + 1)) (xs (i + 2)) (xs (i + 3)) (xs (i + 4))).1]) C dL_law_556 [.int (xs (i + 1)), .int (xs (i + 2)), .int (xs (i + 3)), .int (xs (i + 4))] (q_worth hR1 (xs (i + 1)) (xs (i + 2)) (xs (i + 3)) (xs (i + 4))) okX8_worth lL_71 rfl rfl rfl (fun _ _ => rfl) ⟨rfl, rfl⟩ ⟨Nat.le_of_ble_eq_true rfl, Nat.le_of_ble_eq_true rfl⟩ (Nat.le_of_ble_eq_true rfl) ⟨Nat.le_of_ble_eq_true rfl, Nat.le_of_ble_eq_true rfl⟩ (fun M2 hM2 => ?_)
  have hb9 := kb w M2 _ (hM1.1.frR hM2.2) hM2.1
  refine e_Llcmp C dL_law_559 ?_
  exact e_Lif_eq (tgt := 921) C dL_law_560 (by decide) (fun _ => hb9) (fun h => absurd (lg_eq0 _) h)
set_option maxHeartbeats 1000000 in
set_option maxRecDepth 100000 in
theorem law_hold {X : Ctx} {bs N0 : Nat} {xs : Nat → Int32} (C : Cx X cL_law RL 4 room_1) (S : Sc X bs N0 xs) (hN : N0 < 2 ^ 31) {i : Nat} (hi : i + 6 ≤ N0) {w : Bool} {M : Mm} {n P cnt : Nat → Nat} {k : Nat} {W : Nat → Nat → Int32} {pv : Nat → Nat} {L R H : Nat} {z : Nat → Int32} {g : Nat} {q : Nat → Nat → Nat} (hC : CInv M (n, P, cnt, k, W, pv, L, R, H, z, g, q)) (hR : RInv M (n, P, cnt, k, W, pv, L, R, H, z, g, q)) (kb : ∀ w2 M2 s2, CInv M2 s2 → RInv M2 s2 → Wl X bs (46, 53200) 921 [(0, .null), (1, .ref 0), (2, .ref 25), (3, .int (nI i))] [] (shF w2) M2) : Wl X bs (46, 53200) 565 [(0, .null), (1, .ref 0), (2, .ref 25), (3, .int (nI i))] [] (shF w) M := by
  refine e_Laload C dL_law_565 rfl rfl ?_
  refine e_Larg (j := 1) C S (by decide) (by omega) hN dL_law_566 dL_law_567 dL_law_568 dL_law_569 dL_law_570 ?_
  refine e_Larg (j := 2) C S (by decide) (by omega) hN dL_law_571 dL_law_572 dL_law_573 dL_law_574 dL_law_575 ?_
  refine e_Larg (j := 3) C S (by decide) (by omega) hN dL_law_576 dL_law_577 dL_law_578 dL_law_579 dL_law_580 ?_
  refine e_LcallVi (rest := []) C dL_law_581 [.int (xs (i + 1)), .int (xs (i + 2)), .int (xs (i + 3))] (p_hold hC (xs (i + 1)) (xs (i + 2)) (xs (i + 3))) okX7_hold lL_72 rfl rfl rfl (fun _ _ => rfl) ⟨rfl, rfl⟩ ⟨Nat.le_of_ble_eq_true rfl, Nat.le_of_ble_eq_true rfl⟩ (Nat.le_of_ble_eq_true rfl) ⟨Nat.le_of_ble_eq_true rfl, Nat.le_of_ble_eq_true rfl⟩ (fun M1 hM1 => ?_)
  have hR1 := hR.frC hM1.2
  refine e_Laload C dL_law_584 rfl rfl ?_
  refine e_Larg (j := 1) C S (by decide) (by omega) hN dL_law_585 dL_law_586 dL_law_587 dL_law_588 dL_law_589 ?_
  refine e_Larg (j := 2) C S (by decide) (by omega) hN dL_law_590 dL_law_591 dL_law_592 dL_law_593 dL_law_594 ?_
  refine e_Larg (j := 3) C S (by decide) (by omega) hN dL_law_595 dL_law_596 dL_law_597 dL_law_598 dL_law_599 ?_
  refine e_LcallVi (rest := [.int (spHold (n, P, cnt, k, W, pv, L, R, H, z, g, q) (xs (i + 1)) (xs (i + 2)) (xs (i + 3))).1]) C dL_law_600 [.int (xs (i + 1)), .int (xs (i + 2)), .int (xs (i + 3))] (q_hold hR1 (xs (i + 1)) (xs (i + 2)) (xs (i + 3))) okX8_hold lL_75 rfl rfl rfl (fun _ _ => rfl) ⟨rfl, rfl⟩ ⟨Nat.le_of_ble_eq_true rfl, Nat.le_of_ble_eq_true rfl⟩ (Nat.le_of_ble_eq_true rfl) ⟨Nat.le_of_ble_eq_true rfl, Nat.le_of_ble_eq_true rfl⟩ (fun M2 hM2 => ?_)
  have hb9 := kb w M2 _ (hM1.1.frR hM2.2) hM2.1
  exact e_Licmp_eq (tgt := 921) C dL_law_603 (by decide) (fun _ => hb9) (fun h => absurd rfl h)
set_option maxHeartbeats 1000000 in
set_option maxRecDepth 100000 in
theorem law_nudge {X : Ctx} {bs N0 : Nat} {xs : Nat → Int32} (C : Cx X cL_law RL 4 room_1) (S : Sc X bs N0 xs) (hN : N0 < 2 ^ 31) {i : Nat} (hi : i + 6 ≤ N0) {w : Bool} {M : Mm} {n P cnt : Nat → Nat} {k : Nat} {W : Nat → Nat → Int32} {pv : Nat → Nat} {L R H : Nat} {z : Nat → Int32} {g : Nat} {q : Nat → Nat → Nat} (hC : CInv M (n, P, cnt, k, W, pv, L, R, H, z, g, q)) (hR : RInv M (n, P, cnt, k, W, pv, L, R, H, z, g, q)) (kb : ∀ w2 M2 s2, CInv M2 s2 → RInv M2 s2 → Wl X bs (46, 53200) 921 [(0, .null), (1, .ref 0), (2, .ref 25), (3, .int (nI i))] [] (shF w2) M2) : Wl X bs (46, 53200) 608 [(0, .null), (1, .ref 0), (2, .ref 25), (3, .int (nI i))] [] (shF w) M := by
  obtain ⟨d9, hd9⟩ := Bst.ex (f := ndg n (EE n P k W pv L) (tn (xs (i + 1))) (tn (xs (i + 2))) (tn (xs (i + 3)))) (tn (xs (i + 4))) (fun x y t => hR.1.le _ _ _)
  refine e_Laload C dL_law_608 rfl rfl ?_
  refine e_Larg (j := 1) C S (by decide) (by omega) hN dL_law_609 dL_law_610 dL_law_611 dL_law_612 dL_law_613 ?_
  refine e_Larg (j := 2) C S (by decide) (by omega) hN dL_law_614 dL_law_615 dL_law_616 dL_law_617 dL_law_618 ?_
  refine e_Larg (j := 3) C S (by decide) (by omega) hN dL_law_619 dL_law_620 dL_law_621 dL_law_622 dL_law_623 ?_
  refine e_Larg (j := 4) C S (by decide) (by omega) hN dL_law_624 dL_law_625 dL_law_626 dL_law_627 dL_law_628 ?_
  refine e_Larg (j := 5) C S (by decide) (by omega) hN dL_law_629 dL_law_630 dL_law_631 dL_law_632 dL_law_633 ?_
  refine e_LcallVi (rest := []) C dL_law_634 [.int (xs (i + 1)), .int (xs (i + 2)), .int (xs (i + 3)), .int (xs (i + 4)), .int (xs (i + 5))] (p_nudge hC (xs (i + 1)) (xs (i + 2)) (xs (i + 3)) (xs (i + 4)) (xs (i + 5)) hd9) okX7_nudge lL_76 rfl rfl rfl (fun _ _ => rfl) ⟨rfl, rfl⟩ ⟨Nat.le_of_ble_eq_true rfl, Nat.le_of_ble_eq_true rfl⟩ (Nat.le_of_ble_eq_true rfl) ⟨Nat.le_of_ble_eq_true rfl, Nat.le_of_ble_eq_true rfl⟩ (fun M1 hM1 => ?_)
  have hR1 := hR.frC hM1.2
  refine e_Laload C dL_law_637 rfl rfl ?_
  refine e_Larg (j := 1) C S (by decide) (by omega) hN dL_law_638 dL_law_639 dL_law_640 dL_law_641 dL_law_642 ?_
  refine e_Larg (j := 2) C S (by decide) (by omega) hN dL_law_643 dL_law_644 dL_law_645 dL_law_646 dL_law_647 ?_
  refine e_Larg (j := 3) C S (by decide) (by omega) hN dL_law_648 dL_law_649 dL_law_650 dL_law_651 dL_law_652 ?_
  refine e_Larg (j := 4) C S (by decide) (by omega) hN dL_law_653 dL_law_654 dL_law_655 dL_law_656 dL_law_657 ?_
  refine e_Larg (j := 5) C S (by decide) (by omega) hN dL_law_658 dL_law_659 dL_law_660 dL_law_661 dL_law_662 ?_
  refine e_LcallVi (rest := [.int (spNudge d9 (n, P, cnt, k, W, pv, L, R, H, z, g, q) (xs (i + 1)) (xs (i + 2)) (xs (i + 3)) (xs (i + 4)) (xs (i + 5))).1]) C dL_law_663 [.int (xs (i + 1)), .int (xs (i + 2)), .int (xs (i + 3)), .int (xs (i + 4)), .int (xs (i + 5))] (q_nudge hR1 (xs (i + 1)) (xs (i + 2)) (xs (i + 3)) (xs (i + 4)) (xs (i + 5)) hd9) okX8_nudge lL_80 rfl rfl rfl (fun _ _ => rfl) ⟨rfl, rfl⟩ ⟨Nat.le_of_ble_eq_true rfl, Nat.le_of_ble_eq_true rfl⟩ (Nat.le_of_ble_eq_true rfl) ⟨Nat.le_of_ble_eq_true rfl, Nat.le_of_ble_eq_true rfl⟩ (fun M2 hM2 => ?_)
  have hb9 := kb w M2 _ (hM1.1.frR hM2.2) hM2.1
  exact e_Licmp_eq (tgt := 921) C dL_law_666 (by decide) (fun _ => hb9) (fun h => absurd rfl h)
set_option maxHeartbeats 1000000 in
set_option maxRecDepth 100000 in
theorem law_change {X : Ctx} {bs N0 : Nat} {xs : Nat → Int32} (C : Cx X cL_law RL 4 room_1) (S : Sc X bs N0 xs) (hN : N0 < 2 ^ 31) {i : Nat} (hi : i + 6 ≤ N0) {w : Bool} {M : Mm} {n P cnt : Nat → Nat} {k : Nat} {W : Nat → Nat → Int32} {pv : Nat → Nat} {L R H : Nat} {z : Nat → Int32} {g : Nat} {q : Nat → Nat → Nat} (hC : CInv M (n, P, cnt, k, W, pv, L, R, H, z, g, q)) (hR : RInv M (n, P, cnt, k, W, pv, L, R, H, z, g, q)) (kb : ∀ w2 M2 s2, CInv M2 s2 → RInv M2 s2 → Wl X bs (46, 53200) 921 [(0, .null), (1, .ref 0), (2, .ref 25), (3, .int (nI i))] [] (shF w2) M2) : Wl X bs (46, 53200) 671 [(0, .null), (1, .ref 0), (2, .ref 25), (3, .int (nI i))] [] (shF w) M := by
  refine e_Laload C dL_law_671 rfl rfl ?_
  refine e_Larg (j := 1) C S (by decide) (by omega) hN dL_law_672 dL_law_673 dL_law_674 dL_law_675 dL_law_676 ?_
  refine e_Larg (j := 2) C S (by decide) (by omega) hN dL_law_677 dL_law_678 dL_law_679 dL_law_680 dL_law_681 ?_
  refine e_Larg (j := 3) C S (by decide) (by omega) hN dL_law_682 dL_law_683 dL_law_684 dL_law_685 dL_law_686 ?_
  refine e_LcallVi (rest := []) C dL_law_687 [.int (xs (i + 1)), .int (xs (i + 2)), .int (xs (i + 3))] (p_change hC (xs (i + 1)) (xs (i + 2)) (xs (i + 3))) okX7_change lL_81 rfl rfl rfl (fun _ _ => rfl) ⟨rfl, rfl⟩ ⟨Nat.le_of_ble_eq_true rfl, Nat.le_of_ble_eq_true rfl⟩ (Nat.le_of_ble_eq_true rfl) ⟨Nat.le_of_ble_eq_true rfl, Nat.le_of_ble_eq_true rfl⟩ (fun M1 hM1 => ?_)
  have hR1 := hR.frC hM1.2
  refine e_Laload C dL_law_690 rfl rfl ?_
  refine e_Larg (j := 1) C S (by decide) (by omega) hN dL_law_691 dL_law_692 dL_law_693 dL_law_694 dL_law_695 ?_
  refine e_Larg (j := 2) C S (by decide) (by omega) hN dL_law_696 dL_law_697 dL_law_698 dL_law_699 dL_law_700 ?_
  refine e_Larg (j := 3) C S (by decide) (by omega) hN dL_law_701 dL_law_702 dL_law_703 dL_law_704 dL_law_705 ?_
  refine e_LcallVi (rest := [.int (spChange (n, P, cnt, k, W, pv, L, R, H, z, g, q) (xs (i + 1)) (xs (i + 2)) (xs (i + 3))).1]) C dL_law_706 [.int (xs (i + 1)), .int (xs (i + 2)), .int (xs (i + 3))] (q_change hR1 (xs (i + 1)) (xs (i + 2)) (xs (i + 3))) okX8_change lL_84 rfl rfl rfl (fun _ _ => rfl) ⟨rfl, rfl⟩ ⟨Nat.le_of_ble_eq_true rfl, Nat.le_of_ble_eq_true rfl⟩ (Nat.le_of_ble_eq_true rfl) ⟨Nat.le_of_ble_eq_true rfl, Nat.le_of_ble_eq_true rfl⟩ (fun M2 hM2 => ?_)
  have hb9 := kb w M2 _ (hM1.1.frR hM2.2) hM2.1
  exact e_Licmp_eq (tgt := 921) C dL_law_709 (by decide) (fun _ => hb9) (fun h => absurd rfl h)
set_option maxHeartbeats 1000000 in
set_option maxRecDepth 100000 in
theorem law_room {X : Ctx} {bs N0 : Nat} {xs : Nat → Int32} (C : Cx X cL_law RL 4 room_1) (S : Sc X bs N0 xs) (hN : N0 < 2 ^ 31) {i : Nat} (hi : i + 6 ≤ N0) {w : Bool} {M : Mm} {n P cnt : Nat → Nat} {k : Nat} {W : Nat → Nat → Int32} {pv : Nat → Nat} {L R H : Nat} {z : Nat → Int32} {g : Nat} {q : Nat → Nat → Nat} (hC : CInv M (n, P, cnt, k, W, pv, L, R, H, z, g, q)) (hR : RInv M (n, P, cnt, k, W, pv, L, R, H, z, g, q)) (kb : ∀ w2 M2 s2, CInv M2 s2 → RInv M2 s2 → Wl X bs (46, 53200) 921 [(0, .null), (1, .ref 0), (2, .ref 25), (3, .int (nI i))] [] (shF w2) M2) : Wl X bs (46, 53200) 714 [(0, .null), (1, .ref 0), (2, .ref 25), (3, .int (nI i))] [] (shF w) M := by
  refine e_Laload C dL_law_714 rfl rfl ?_
  refine e_Larg (j := 1) C S (by decide) (by omega) hN dL_law_715 dL_law_716 dL_law_717 dL_law_718 dL_law_719 ?_
  refine e_LcallVi (rest := []) C dL_law_720 [.int (xs (i + 1))] (p_room hC (xs (i + 1))) okX7_room lL_85 rfl rfl rfl (fun _ _ => rfl) ⟨rfl, rfl⟩ ⟨Nat.le_of_ble_eq_true rfl, Nat.le_of_ble_eq_true rfl⟩ (Nat.le_of_ble_eq_true rfl) ⟨Nat.le_of_ble_eq_true rfl, Nat.le_of_ble_eq_true rfl⟩ (fun M1 hM1 => ?_)
  have hR1 := hR.frC hM1.2
  refine e_Laload C dL_law_723 rfl rfl ?_
  refine e_Larg (j := 1) C S (by decide) (by omega) hN dL_law_724 dL_law_725 dL_law_726 dL_law_727 dL_law_728 ?_
  refine e_LcallVi (rest := [.int (spRoom (n, P, cnt, k, W, pv, L, R, H, z, g, q) (xs (i + 1))).1]) C dL_law_729 [.int (xs (i + 1))] (q_room hR1 (xs (i + 1))) okX8_room lL_88 rfl rfl rfl (fun _ _ => rfl) ⟨rfl, rfl⟩ ⟨Nat.le_of_ble_eq_true rfl, Nat.le_of_ble_eq_true rfl⟩ (Nat.le_of_ble_eq_true rfl) ⟨Nat.le_of_ble_eq_true rfl, Nat.le_of_ble_eq_true rfl⟩ (fun M2 hM2 => ?_)
  have hb9 := kb w M2 _ (hM1.1.frR hM2.2) hM2.1
  exact e_Licmp_eq (tgt := 921) C dL_law_732 (by decide) (fun _ => hb9) (fun h => absurd rfl h)
set_option maxHeartbeats 1000000 in
set_option maxRecDepth 100000 in
theorem law_fill {X : Ctx} {bs N0 : Nat} {xs : Nat → Int32} (C : Cx X cL_law RL 4 room_1) (S : Sc X bs N0 xs) (hN : N0 < 2 ^ 31) {i : Nat} (hi : i + 6 ≤ N0) {w : Bool} {M : Mm} {n P cnt : Nat → Nat} {k : Nat} {W : Nat → Nat → Int32} {pv : Nat → Nat} {L R H : Nat} {z : Nat → Int32} {g : Nat} {q : Nat → Nat → Nat} (hC : CInv M (n, P, cnt, k, W, pv, L, R, H, z, g, q)) (hR : RInv M (n, P, cnt, k, W, pv, L, R, H, z, g, q)) (kb : ∀ w2 M2 s2, CInv M2 s2 → RInv M2 s2 → Wl X bs (46, 53200) 921 [(0, .null), (1, .ref 0), (2, .ref 25), (3, .int (nI i))] [] (shF w2) M2) : Wl X bs (46, 53200) 737 [(0, .null), (1, .ref 0), (2, .ref 25), (3, .int (nI i))] [] (shF w) M := by
  refine e_Laload C dL_law_737 rfl rfl ?_
  refine e_Larg (j := 1) C S (by decide) (by omega) hN dL_law_738 dL_law_739 dL_law_740 dL_law_741 dL_law_742 ?_
  refine e_LcallVi (rest := []) C dL_law_743 [.int (xs (i + 1))] (p_fill hC (xs (i + 1))) okX7_fill lL_89 rfl rfl rfl (fun _ _ => rfl) ⟨rfl, rfl⟩ ⟨Nat.le_of_ble_eq_true rfl, Nat.le_of_ble_eq_true rfl⟩ (Nat.le_of_ble_eq_true rfl) ⟨Nat.le_of_ble_eq_true rfl, Nat.le_of_ble_eq_true rfl⟩ (fun M1 hM1 => ?_)
  have hR1 := hR.frC hM1.2
  refine e_Laload C dL_law_746 rfl rfl ?_
  refine e_Larg (j := 1) C S (by decide) (by omega) hN dL_law_747 dL_law_748 dL_law_749 dL_law_750 dL_law_751 ?_
  refine e_LcallVi (rest := [.int (spFill (n, P, cnt, k, W, pv, L, R, H, z, g, q) (xs (i + 1))).1]) C dL_law_752 [.int (xs (i + 1))] (q_fill hR1 (xs (i + 1))) okX8_fill lL_92 rfl rfl rfl (fun _ _ => rfl) ⟨rfl, rfl⟩ ⟨Nat.le_of_ble_eq_true rfl, Nat.le_of_ble_eq_true rfl⟩ (Nat.le_of_ble_eq_true rfl) ⟨Nat.le_of_ble_eq_true rfl, Nat.le_of_ble_eq_true rfl⟩ (fun M2 hM2 => ?_)
  have hb9 := kb w M2 _ (hM1.1.frR hM2.2) hM2.1
  exact e_Licmp_eq (tgt := 921) C dL_law_755 (by decide) (fun _ => hb9) (fun h => absurd rfl h)
set_option maxHeartbeats 1000000 in
set_option maxRecDepth 100000 in
theorem law_play {X : Ctx} {bs N0 : Nat} {xs : Nat → Int32} (C : Cx X cL_law RL 4 room_1) (S : Sc X bs N0 xs) (hN : N0 < 2 ^ 31) {i : Nat} (hi : i + 6 ≤ N0) {w : Bool} {M : Mm} {n P cnt : Nat → Nat} {k : Nat} {W : Nat → Nat → Int32} {pv : Nat → Nat} {L R H : Nat} {z : Nat → Int32} {g : Nat} {q : Nat → Nat → Nat} (hC : CInv M (n, P, cnt, k, W, pv, L, R, H, z, g, q)) (hR : RInv M (n, P, cnt, k, W, pv, L, R, H, z, g, q)) (kb : ∀ w2 M2 s2, CInv M2 s2 → RInv M2 s2 → Wl X bs (46, 53200) 921 [(0, .null), (1, .ref 0), (2, .ref 25), (3, .int (nI i))] [] (shF w2) M2) : Wl X bs (46, 53200) 760 [(0, .null), (1, .ref 0), (2, .ref 25), (3, .int (nI i))] [] (shF w) M := by
  refine e_Laload C dL_law_760 rfl rfl ?_
  refine e_Larg (j := 1) C S (by decide) (by omega) hN dL_law_761 dL_law_762 dL_law_763 dL_law_764 dL_law_765 ?_
  refine e_Larg (j := 2) C S (by decide) (by omega) hN dL_law_766 dL_law_767 dL_law_768 dL_law_769 dL_law_770 ?_
  refine e_Larg (j := 3) C S (by decide) (by omega) hN dL_law_771 dL_law_772 dL_law_773 dL_law_774 dL_law_775 ?_
  refine e_LcallVi (rest := []) C dL_law_776 [.int (xs (i + 1)), .int (xs (i + 2)), .int (xs (i + 3))] (p_play hC (xs (i + 1)) (xs (i + 2)) (xs (i + 3))) okX7_play lL_93 rfl rfl rfl (fun _ _ => rfl) ⟨rfl, rfl⟩ ⟨Nat.le_of_ble_eq_true rfl, Nat.le_of_ble_eq_true rfl⟩ (Nat.le_of_ble_eq_true rfl) ⟨Nat.le_of_ble_eq_true rfl, Nat.le_of_ble_eq_true rfl⟩ (fun M1 hM1 => ?_)
  have hR1 := hR.frC hM1.2
  refine e_Laload C dL_law_779 rfl rfl ?_
  refine e_Larg (j := 1) C S (by decide) (by omega) hN dL_law_780 dL_law_781 dL_law_782 dL_law_783 dL_law_784 ?_
  refine e_Larg (j := 2) C S (by decide) (by omega) hN dL_law_785 dL_law_786 dL_law_787 dL_law_788 dL_law_789 ?_
  refine e_Larg (j := 3) C S (by decide) (by omega) hN dL_law_790 dL_law_791 dL_law_792 dL_law_793 dL_law_794 ?_
  refine e_LcallVi (rest := [.int (spPlay (n, P, cnt, k, W, pv, L, R, H, z, g, q) (xs (i + 1)) (xs (i + 2)) (xs (i + 3))).1]) C dL_law_795 [.int (xs (i + 1)), .int (xs (i + 2)), .int (xs (i + 3))] (q_play hR1 (xs (i + 1)) (xs (i + 2)) (xs (i + 3))) okX8_play lL_96 rfl rfl rfl (fun _ _ => rfl) ⟨rfl, rfl⟩ ⟨Nat.le_of_ble_eq_true rfl, Nat.le_of_ble_eq_true rfl⟩ (Nat.le_of_ble_eq_true rfl) ⟨Nat.le_of_ble_eq_true rfl, Nat.le_of_ble_eq_true rfl⟩ (fun M2 hM2 => ?_)
  have hb9 := kb w M2 _ (hM1.1.frR hM2.2) hM2.1
  exact e_Licmp_eq (tgt := 921) C dL_law_798 (by decide) (fun _ => hb9) (fun h => absurd rfl h)
set_option maxHeartbeats 1000000 in
set_option maxRecDepth 100000 in
theorem law_coins {X : Ctx} {bs N0 : Nat} {xs : Nat → Int32} (C : Cx X cL_law RL 4 room_1) (S : Sc X bs N0 xs) (hN : N0 < 2 ^ 31) {i : Nat} (hi : i + 6 ≤ N0) {w : Bool} {M : Mm} {n P cnt : Nat → Nat} {k : Nat} {W : Nat → Nat → Int32} {pv : Nat → Nat} {L R H : Nat} {z : Nat → Int32} {g : Nat} {q : Nat → Nat → Nat} (hC : CInv M (n, P, cnt, k, W, pv, L, R, H, z, g, q)) (hR : RInv M (n, P, cnt, k, W, pv, L, R, H, z, g, q)) (kb : ∀ w2 M2 s2, CInv M2 s2 → RInv M2 s2 → Wl X bs (46, 53200) 921 [(0, .null), (1, .ref 0), (2, .ref 25), (3, .int (nI i))] [] (shF w2) M2) : Wl X bs (46, 53200) 803 [(0, .null), (1, .ref 0), (2, .ref 25), (3, .int (nI i))] [] (shF w) M := by
  refine e_Laload C dL_law_803 rfl rfl ?_
  refine e_Larg (j := 1) C S (by decide) (by omega) hN dL_law_804 dL_law_805 dL_law_806 dL_law_807 dL_law_808 ?_
  refine e_LcallVi (rest := []) C dL_law_809 [.int (xs (i + 1))] (p_coins hC (xs (i + 1))) okX7_coins lL_97 rfl rfl rfl (fun _ _ => rfl) ⟨rfl, rfl⟩ ⟨Nat.le_of_ble_eq_true rfl, Nat.le_of_ble_eq_true rfl⟩ (Nat.le_of_ble_eq_true rfl) ⟨Nat.le_of_ble_eq_true rfl, Nat.le_of_ble_eq_true rfl⟩ (fun M1 hM1 => ?_)
  have hR1 := hR.frC hM1.2
  refine e_Laload C dL_law_812 rfl rfl ?_
  refine e_Larg (j := 1) C S (by decide) (by omega) hN dL_law_813 dL_law_814 dL_law_815 dL_law_816 dL_law_817 ?_
  refine e_LcallVi (rest := [.int (spCoins (n, P, cnt, k, W, pv, L, R, H, z, g, q) (xs (i + 1))).1]) C dL_law_818 [.int (xs (i + 1))] (q_coins hR1 (xs (i + 1))) okX8_coins lL_100 rfl rfl rfl (fun _ _ => rfl) ⟨rfl, rfl⟩ ⟨Nat.le_of_ble_eq_true rfl, Nat.le_of_ble_eq_true rfl⟩ (Nat.le_of_ble_eq_true rfl) ⟨Nat.le_of_ble_eq_true rfl, Nat.le_of_ble_eq_true rfl⟩ (fun M2 hM2 => ?_)
  have hb9 := kb w M2 _ (hM1.1.frR hM2.2) hM2.1
  exact e_Licmp_eq (tgt := 921) C dL_law_821 (by decide) (fun _ => hb9) (fun h => absurd rfl h)
set_option maxHeartbeats 1000000 in
set_option maxRecDepth 100000 in
theorem law_dry {X : Ctx} {bs N0 : Nat} {xs : Nat → Int32} (C : Cx X cL_law RL 4 room_1) (S : Sc X bs N0 xs) (hN : N0 < 2 ^ 31) {i : Nat} (hi : i + 6 ≤ N0) {w : Bool} {M : Mm} {n P cnt : Nat → Nat} {k : Nat} {W : Nat → Nat → Int32} {pv : Nat → Nat} {L R H : Nat} {z : Nat → Int32} {g : Nat} {q : Nat → Nat → Nat} (hC : CInv M (n, P, cnt, k, W, pv, L, R, H, z, g, q)) (hR : RInv M (n, P, cnt, k, W, pv, L, R, H, z, g, q)) (kb : ∀ w2 M2 s2, CInv M2 s2 → RInv M2 s2 → Wl X bs (46, 53200) 921 [(0, .null), (1, .ref 0), (2, .ref 25), (3, .int (nI i))] [] (shF w2) M2) : Wl X bs (46, 53200) 826 [(0, .null), (1, .ref 0), (2, .ref 25), (3, .int (nI i))] [] (shF w) M := by
  obtain ⟨sz, f, hE⟩ := Enum.ex (n := n) (E := (EE n P k W pv L)) hR.1.le
  refine e_Laload C dL_law_826 rfl rfl ?_
  refine e_Larg (j := 1) C S (by decide) (by omega) hN dL_law_827 dL_law_828 dL_law_829 dL_law_830 dL_law_831 ?_
  refine e_Larg (j := 2) C S (by decide) (by omega) hN dL_law_832 dL_law_833 dL_law_834 dL_law_835 dL_law_836 ?_
  refine e_LcallV_gen (As := [.int (xs (i + 1)), .int (xs (i + 2))]) (rest := []) C dL_law_837 (p_dry hC hE (xs (i + 1)) (xs (i + 2))) okX7_dry lL_101 rfl rfl (fun _ _ => rfl) (fun z bs v s3 M3 h => by obtain ⟨rfl, -⟩ := h; rfl) ⟨Nat.le_of_ble_eq_true rfl, Nat.le_of_ble_eq_true rfl⟩ (Nat.le_of_ble_eq_true rfl) ⟨Nat.le_of_ble_eq_true rfl, Nat.le_of_ble_eq_true rfl⟩ (fun v s3 M3 h => by obtain ⟨-, ⟨w2, rfl⟩, -⟩ := h; rfl) ?_
  rintro v s3 M1 ⟨rfl, ⟨w2, rfl⟩, hM1⟩
  refine (show Wl X bs (46, 53200) 840 [(0, .null), (1, .ref 0), (2, .ref 25), (3, .int (nI i))] [.long (spDry sz f (n, P, cnt, k, W, pv, L, R, H, z, g, q) (xs (i + 1)) (xs (i + 2))).1] (shF w2) M1 from ?_)
  have hR1 := hR.frC hM1.2
  refine e_Laload C dL_law_840 rfl rfl ?_
  refine e_Larg (j := 1) C S (by decide) (by omega) hN dL_law_841 dL_law_842 dL_law_843 dL_law_844 dL_law_845 ?_
  refine e_Larg (j := 2) C S (by decide) (by omega) hN dL_law_846 dL_law_847 dL_law_848 dL_law_849 dL_law_850 ?_
  refine e_LcallVl (rest := [.long (spDry sz f (n, P, cnt, k, W, pv, L, R, H, z, g, q) (xs (i + 1)) (xs (i + 2))).1]) C dL_law_851 [.int (xs (i + 1)), .int (xs (i + 2))] (q_dry hR1 hE (xs (i + 1)) (xs (i + 2))) okX8_dry lL_105 rfl rfl rfl (fun _ _ => rfl) ⟨rfl, rfl⟩ ⟨Nat.le_of_ble_eq_true rfl, Nat.le_of_ble_eq_true rfl⟩ (Nat.le_of_ble_eq_true rfl) ⟨Nat.le_of_ble_eq_true rfl, Nat.le_of_ble_eq_true rfl⟩ (fun M2 hM2 => ?_)
  have hb9 := kb w2 M2 _ (hM1.1.frR hM2.2) hM2.1
  refine e_Llcmp C dL_law_854 ?_
  exact e_Lif_eq (tgt := 921) C dL_law_855 (by decide) (fun _ => hb9) (fun h => absurd (lg_eq0 _) h)
set_option maxHeartbeats 1000000 in
set_option maxRecDepth 100000 in
theorem law_favoured {X : Ctx} {bs N0 : Nat} {xs : Nat → Int32} (C : Cx X cL_law RL 4 room_1) (S : Sc X bs N0 xs) (hN : N0 < 2 ^ 31) {i : Nat} (hi : i + 6 ≤ N0) {w : Bool} {M : Mm} {n P cnt : Nat → Nat} {k : Nat} {W : Nat → Nat → Int32} {pv : Nat → Nat} {L R H : Nat} {z : Nat → Int32} {g : Nat} {q : Nat → Nat → Nat} (hC : CInv M (n, P, cnt, k, W, pv, L, R, H, z, g, q)) (hR : RInv M (n, P, cnt, k, W, pv, L, R, H, z, g, q)) (kb : ∀ w2 M2 s2, CInv M2 s2 → RInv M2 s2 → Wl X bs (46, 53200) 921 [(0, .null), (1, .ref 0), (2, .ref 25), (3, .int (nI i))] [] (shF w2) M2) : Wl X bs (46, 53200) 860 [(0, .null), (1, .ref 0), (2, .ref 25), (3, .int (nI i))] [] (shF w) M := by
  refine e_Laload C dL_law_860 rfl rfl ?_
  refine e_Larg (j := 1) C S (by decide) (by omega) hN dL_law_861 dL_law_862 dL_law_863 dL_law_864 dL_law_865 ?_
  refine e_LcallVi (rest := []) C dL_law_866 [.int (xs (i + 1))] (p_favoured hC (xs (i + 1))) okX7_favoured lL_106 rfl rfl rfl (fun _ _ => rfl) ⟨rfl, rfl⟩ ⟨Nat.le_of_ble_eq_true rfl, Nat.le_of_ble_eq_true rfl⟩ (Nat.le_of_ble_eq_true rfl) ⟨Nat.le_of_ble_eq_true rfl, Nat.le_of_ble_eq_true rfl⟩ (fun M1 hM1 => ?_)
  have hR1 := hR.frC hM1.2
  refine e_Laload C dL_law_869 rfl rfl ?_
  refine e_Larg (j := 1) C S (by decide) (by omega) hN dL_law_870 dL_law_871 dL_law_872 dL_law_873 dL_law_874 ?_
  refine e_LcallVi (rest := [.int (spFavoured (n, P, cnt, k, W, pv, L, R, H, z, g, q) (xs (i + 1))).1]) C dL_law_875 [.int (xs (i + 1))] (q_favoured hR1 (xs (i + 1))) okX8_favoured lL_109 rfl rfl rfl (fun _ _ => rfl) ⟨rfl, rfl⟩ ⟨Nat.le_of_ble_eq_true rfl, Nat.le_of_ble_eq_true rfl⟩ (Nat.le_of_ble_eq_true rfl) ⟨Nat.le_of_ble_eq_true rfl, Nat.le_of_ble_eq_true rfl⟩ (fun M2 hM2 => ?_)
  have hb9 := kb w M2 _ (hM1.1.frR hM2.2) hM2.1
  exact e_Licmp_eq (tgt := 921) C dL_law_878 (by decide) (fun _ => hb9) (fun h => absurd rfl h)
set_option maxHeartbeats 1000000 in
set_option maxRecDepth 100000 in
theorem law_odd {X : Ctx} {bs N0 : Nat} {xs : Nat → Int32} (C : Cx X cL_law RL 4 room_1) (S : Sc X bs N0 xs) (hN : N0 < 2 ^ 31) {i : Nat} (hi : i + 6 ≤ N0) {w : Bool} {M : Mm} {n P cnt : Nat → Nat} {k : Nat} {W : Nat → Nat → Int32} {pv : Nat → Nat} {L R H : Nat} {z : Nat → Int32} {g : Nat} {q : Nat → Nat → Nat} (hC : CInv M (n, P, cnt, k, W, pv, L, R, H, z, g, q)) (hR : RInv M (n, P, cnt, k, W, pv, L, R, H, z, g, q)) (kb : ∀ w2 M2 s2, CInv M2 s2 → RInv M2 s2 → Wl X bs (46, 53200) 921 [(0, .null), (1, .ref 0), (2, .ref 25), (3, .int (nI i))] [] (shF w2) M2) : Wl X bs (46, 53200) 883 [(0, .null), (1, .ref 0), (2, .ref 25), (3, .int (nI i))] [] (shF w) M := by
  refine e_Laload C dL_law_883 rfl rfl ?_
  refine e_Larg (j := 1) C S (by decide) (by omega) hN dL_law_884 dL_law_885 dL_law_886 dL_law_887 dL_law_888 ?_
  refine e_LcallVl (rest := []) C dL_law_889 [.int (xs (i + 1))] (p_odd hC (xs (i + 1))) okX7_odd lL_110 rfl rfl rfl (fun _ _ => rfl) ⟨rfl, rfl⟩ ⟨Nat.le_of_ble_eq_true rfl, Nat.le_of_ble_eq_true rfl⟩ (Nat.le_of_ble_eq_true rfl) ⟨Nat.le_of_ble_eq_true rfl, Nat.le_of_ble_eq_true rfl⟩ (fun M1 hM1 => ?_)
  have hR1 := hR.frC hM1.2
  refine e_Laload C dL_law_892 rfl rfl ?_
  refine e_Larg (j := 1) C S (by decide) (by omega) hN dL_law_893 dL_law_894 dL_law_895 dL_law_896 dL_law_897 ?_
  refine e_LcallVl (rest := [.long (spOdd (n, P, cnt, k, W, pv, L, R, H, z, g, q) (xs (i + 1))).1]) C dL_law_898 [.int (xs (i + 1))] (q_odd hR1 (xs (i + 1))) okX8_odd lL_113 rfl rfl rfl (fun _ _ => rfl) ⟨rfl, rfl⟩ ⟨Nat.le_of_ble_eq_true rfl, Nat.le_of_ble_eq_true rfl⟩ (Nat.le_of_ble_eq_true rfl) ⟨Nat.le_of_ble_eq_true rfl, Nat.le_of_ble_eq_true rfl⟩ (fun M2 hM2 => ?_)
  have hb9 := kb w M2 _ (hM1.1.frR hM2.2) hM2.1
  refine e_Llcmp C dL_law_901 ?_
  exact e_Lif_eq (tgt := 921) C dL_law_902 (by decide) (fun _ => hb9) (fun h => absurd (lg_eq0 _) h)
set_option maxHeartbeats 1000000 in
set_option maxRecDepth 100000 in
theorem law_digest {X : Ctx} {bs N0 : Nat} {xs : Nat → Int32} (C : Cx X cL_law RL 4 room_1) (S : Sc X bs N0 xs) (hN : N0 < 2 ^ 31) {i : Nat} (hi : i + 6 ≤ N0) {w : Bool} {M : Mm} {n P cnt : Nat → Nat} {k : Nat} {W : Nat → Nat → Int32} {pv : Nat → Nat} {L R H : Nat} {z : Nat → Int32} {g : Nat} {q : Nat → Nat → Nat} (hC : CInv M (n, P, cnt, k, W, pv, L, R, H, z, g, q)) (hR : RInv M (n, P, cnt, k, W, pv, L, R, H, z, g, q)) (kb : ∀ w2 M2 s2, CInv M2 s2 → RInv M2 s2 → Wl X bs (46, 53200) 921 [(0, .null), (1, .ref 0), (2, .ref 25), (3, .int (nI i))] [] (shF w2) M2) : Wl X bs (46, 53200) 907 [(0, .null), (1, .ref 0), (2, .ref 25), (3, .int (nI i))] [] (shF w) M := by
  refine e_Laload C dL_law_907 rfl rfl ?_
  refine e_LcallVl (rest := []) C dL_law_908 [] (p_digest hC) okX7_digest lL_114 rfl rfl rfl (fun _ _ => rfl) ⟨rfl, rfl⟩ ⟨Nat.le_of_ble_eq_true rfl, Nat.le_of_ble_eq_true rfl⟩ (Nat.le_of_ble_eq_true rfl) ⟨Nat.le_of_ble_eq_true rfl, Nat.le_of_ble_eq_true rfl⟩ (fun M1 hM1 => ?_)
  have hR1 := hR.frC hM1.2
  refine e_Laload C dL_law_911 rfl rfl ?_
  refine e_LcallVl (rest := [.long (spDigest (n, P, cnt, k, W, pv, L, R, H, z, g, q)).1]) C dL_law_912 [] (q_digest hR1) okX8_digest lL_118 rfl rfl rfl (fun _ _ => rfl) ⟨rfl, rfl⟩ ⟨Nat.le_of_ble_eq_true rfl, Nat.le_of_ble_eq_true rfl⟩ (Nat.le_of_ble_eq_true rfl) ⟨Nat.le_of_ble_eq_true rfl, Nat.le_of_ble_eq_true rfl⟩ (fun M2 hM2 => ?_)
  have hb9 := kb w M2 _ (hM1.1.frR hM2.2) hM2.1
  refine e_Llcmp C dL_law_915 ?_
  exact e_Lif_eq (tgt := 921) C dL_law_916 (by decide) (fun _ => hb9) (fun h => absurd (lg_eq0 _) h)
