/-! ===== BEGIN printed: the law's cases ===== -/
section LAW2
variable {p : Program} {l : Launch} {e : Env} {s : State} {m : MethodId} {below : List Frame} {meth : Method} {c : Code} {b L : Nat} {xs : Nat → Int32} {E : xG} {a g : Nat → Nat} {u v : xU} {n : Nat} {H : Heap} {locs : List Loc} {cells slots : Nat} {Q : State → Prop} {ls : Array Slot} {i : Nat}
set_option maxHeartbeats 4000000 in
set_option maxRecDepth 100000 in
theorem lw_case_0 (C0 : lw_C p s m c b L xs E a g) (hz : zR u v n) (hW : lw_W E s a g u v H locs) (hi : i + 6 < L) (hl : lv_has ls 4 [(3, .int (nI i)), (0, .ref b), (1, .ref (a 0)), (2, .ref (g 0))]) (hf : cells + 0 ≤ room_1.cells ∧ slots + 0 ≤ room_1.slots) (kk : ∀ (u' v' : xU) (n' : Nat) (H1 : Heap) (locs1 : List Loc), zR u' v' n' → lw_W E s a g u' v' H1 locs1 → W p l e room_1 s m #[Value.ref b] below meth c H1 locs1 cells slots Q (F0 m 1342 ls [])) : W p l e room_1 s m #[Value.ref b] below meth c H locs cells slots Q (F0 m 188 ls []) := by
  refine lv_aload_n C0.1 C0.2.1 dL_law_188 rfl (lv_at hl 2 rfl) ?_
  refine lw_arg (k := 1) (x := 1) C0 hW hi hl dL_law_189 dL_law_190 dL_law_191 dL_law_192 dL_law_193 rfl (by decide) (by decide) ?_
  refine lw_arg (k := 2) (x := 2) C0 hW hi hl dL_law_194 dL_law_195 dL_law_196 dL_law_197 dL_law_198 rfl (by decide) (by decide) ?_
  refine lw_arg (k := 3) (x := 3) C0 hW hi hl dL_law_199 dL_law_200 dL_law_201 dL_law_202 dL_law_203 rfl (by decide) (by decide) ?_
  refine lw_arg (k := 4) (x := 4) C0 hW hi hl dL_law_204 dL_law_205 dL_law_206 dL_law_207 dL_law_208 rfl (by decide) (by decide) ?_
  refine lw_c5 C0 hW (c_X5_piece l E a u (xs (nI i + 1).toNatClampNeg) (xs (nI i + 2).toNatClampNeg) (xs (nI i + 3).toNatClampNeg) (xs (nI i + 4).toNatClampNeg) hz.xv C0.2.2.2.2.2.2.1) (cwV 4 C0.2.2.2.2.1 gL_law_X5_piece rfl rfl rfl ⟨rfl, hd_X5_piece⟩ ⟨(Nat.le_of_ble_eq_true rfl), (Nat.le_of_ble_eq_true rfl)⟩) rfl hl.1 rfl (Nat.le_of_ble_eq_true rfl) hf dL_law_209 (fun H locs hW => ?_)
  refine W.eq (g2 := F0 m 212 ls [.int (s_X5_piece u (xs (nI i + 1).toNatClampNeg) (xs (nI i + 2).toNatClampNeg) (xs (nI i + 3).toNatClampNeg) (xs (nI i + 4).toNatClampNeg)).1]) rfl ?_
  refine lv_aload_n C0.1 C0.2.1 dL_law_212 rfl (lv_at hl 3 rfl) ?_
  refine lw_arg (k := 1) (x := 1) C0 hW hi hl dL_law_213 dL_law_214 dL_law_215 dL_law_216 dL_law_217 rfl (by decide) (by decide) ?_
  refine lw_arg (k := 2) (x := 2) C0 hW hi hl dL_law_218 dL_law_219 dL_law_220 dL_law_221 dL_law_222 rfl (by decide) (by decide) ?_
  refine lw_arg (k := 3) (x := 3) C0 hW hi hl dL_law_223 dL_law_224 dL_law_225 dL_law_226 dL_law_227 rfl (by decide) (by decide) ?_
  refine lw_arg (k := 4) (x := 4) C0 hW hi hl dL_law_228 dL_law_229 dL_law_230 dL_law_231 dL_law_232 rfl (by decide) (by decide) ?_
  refine lw_c6 C0 hW (c_X6_piece l E g v (xs (nI i + 1).toNatClampNeg) (xs (nI i + 2).toNatClampNeg) (xs (nI i + 3).toNatClampNeg) (xs (nI i + 4).toNatClampNeg) hz.zW C0.2.2.2.2.2.2.2.1) (cwV 4 C0.2.2.2.2.1 gL_law_X6_piece rfl rfl rfl ⟨rfl, hd_X6_piece⟩ ⟨(Nat.le_of_ble_eq_true rfl), (Nat.le_of_ble_eq_true rfl)⟩) rfl hl.1 rfl (Nat.le_of_ble_eq_true rfl) hf dL_law_233 (fun H locs hW => ?_)
  refine W.eq (g2 := F0 m 236 ls [.int (s_X6_piece v (xs (nI i + 1).toNatClampNeg) (xs (nI i + 2).toNatClampNeg) (xs (nI i + 3).toNatClampNeg) (xs (nI i + 4).toNatClampNeg)).1, .int (s_X5_piece u (xs (nI i + 1).toNatClampNeg) (xs (nI i + 2).toNatClampNeg) (xs (nI i + 3).toNatClampNeg) (xs (nI i + 4).toNatClampNeg)).1]) rfl ?_
  obtain ⟨e1, n2, e2⟩ := e_piece hz (xs (nI i + 1).toNatClampNeg) (xs (nI i + 2).toNatClampNeg) (xs (nI i + 3).toNatClampNeg) (xs (nI i + 4).toNatClampNeg)
  exact lv_icmp_eq (tgt := 1342) C0.1 C0.2.1 dL_law_236 rfl (fun _ => kk _ _ _ _ _ e2 hW) (fun q => absurd e1 q)
set_option maxHeartbeats 4000000 in
set_option maxRecDepth 100000 in
theorem lw_case_1 (C0 : lw_C p s m c b L xs E a g) (hz : zR u v n) (hW : lw_W E s a g u v H locs) (hi : i + 6 < L) (hl : lv_has ls 4 [(3, .int (nI i)), (0, .ref b), (1, .ref (a 0)), (2, .ref (g 0))]) (hf : cells + 0 ≤ room_1.cells ∧ slots + 0 ≤ room_1.slots) (kk : ∀ (u' v' : xU) (n' : Nat) (H1 : Heap) (locs1 : List Loc), zR u' v' n' → lw_W E s a g u' v' H1 locs1 → W p l e room_1 s m #[Value.ref b] below meth c H1 locs1 cells slots Q (F0 m 1342 ls [])) : W p l e room_1 s m #[Value.ref b] below meth c H locs cells slots Q (F0 m 241 ls []) := by
  refine lv_aload_n C0.1 C0.2.1 dL_law_241 rfl (lv_at hl 2 rfl) ?_
  refine lw_c5 C0 hW (c_X5_drop l E a u hz.xv C0.2.2.2.2.2.2.1) (cwV 0 C0.2.2.2.2.1 gL_law_X5_drop rfl rfl rfl ⟨rfl, hd_X5_drop⟩ ⟨(Nat.le_of_ble_eq_true rfl), (Nat.le_of_ble_eq_true rfl)⟩) rfl hl.1 rfl (Nat.le_of_ble_eq_true rfl) hf dL_law_242 (fun H locs hW => ?_)
  refine W.eq (g2 := F0 m 245 ls [.int (s_X5_drop u).1]) rfl ?_
  refine lv_aload_n C0.1 C0.2.1 dL_law_245 rfl (lv_at hl 3 rfl) ?_
  refine lw_c6 C0 hW (c_X6_drop l E g v C0.2.2.2.2.2.2.2.1) (cwV 0 C0.2.2.2.2.1 gL_law_X6_drop rfl rfl rfl ⟨rfl, hd_X6_drop⟩ ⟨(Nat.le_of_ble_eq_true rfl), (Nat.le_of_ble_eq_true rfl)⟩) rfl hl.1 rfl (Nat.le_of_ble_eq_true rfl) hf dL_law_246 (fun H locs hW => ?_)
  refine W.eq (g2 := F0 m 249 ls [.int (s_X6_drop v).1, .int (s_X5_drop u).1]) rfl ?_
  obtain ⟨e1, n2, e2⟩ := e_drop hz
  exact lv_icmp_eq (tgt := 1342) C0.1 C0.2.1 dL_law_249 rfl (fun _ => kk _ _ _ _ _ e2 hW) (fun q => absurd e1 q)
set_option maxHeartbeats 4000000 in
set_option maxRecDepth 100000 in
theorem lw_case_2 (C0 : lw_C p s m c b L xs E a g) (hz : zR u v n) (hW : lw_W E s a g u v H locs) (hi : i + 6 < L) (hl : lv_has ls 4 [(3, .int (nI i)), (0, .ref b), (1, .ref (a 0)), (2, .ref (g 0))]) (hf : cells + 0 ≤ room_1.cells ∧ slots + 0 ≤ room_1.slots) (kk : ∀ (u' v' : xU) (n' : Nat) (H1 : Heap) (locs1 : List Loc), zR u' v' n' → lw_W E s a g u' v' H1 locs1 → W p l e room_1 s m #[Value.ref b] below meth c H1 locs1 cells slots Q (F0 m 1342 ls [])) : W p l e room_1 s m #[Value.ref b] below meth c H locs cells slots Q (F0 m 254 ls []) := by
  refine lv_aload_n C0.1 C0.2.1 dL_law_254 rfl (lv_at hl 2 rfl) ?_
  refine lw_arg (k := 1) (x := 1) C0 hW hi hl dL_law_255 dL_law_256 dL_law_257 dL_law_258 dL_law_259 rfl (by decide) (by decide) ?_
  refine lw_arg (k := 2) (x := 2) C0 hW hi hl dL_law_260 dL_law_261 dL_law_262 dL_law_263 dL_law_264 rfl (by decide) (by decide) ?_
  refine lw_arg (k := 3) (x := 3) C0 hW hi hl dL_law_265 dL_law_266 dL_law_267 dL_law_268 dL_law_269 rfl (by decide) (by decide) ?_
  refine lw_c5 C0 hW (c_X5_set l E a u (xs (nI i + 1).toNatClampNeg) (xs (nI i + 2).toNatClampNeg) (xs (nI i + 3).toNatClampNeg) hz.xv C0.2.2.2.2.2.2.1) (cwV 3 C0.2.2.2.2.1 gL_law_X5_set rfl rfl rfl ⟨rfl, hd_X5_set⟩ ⟨(Nat.le_of_ble_eq_true rfl), (Nat.le_of_ble_eq_true rfl)⟩) rfl hl.1 rfl (Nat.le_of_ble_eq_true rfl) hf dL_law_270 (fun H locs hW => ?_)
  refine W.eq (g2 := F0 m 273 ls [.int (s_X5_set u (xs (nI i + 1).toNatClampNeg) (xs (nI i + 2).toNatClampNeg) (xs (nI i + 3).toNatClampNeg)).1]) rfl ?_
  refine lv_aload_n C0.1 C0.2.1 dL_law_273 rfl (lv_at hl 3 rfl) ?_
  refine lw_arg (k := 1) (x := 1) C0 hW hi hl dL_law_274 dL_law_275 dL_law_276 dL_law_277 dL_law_278 rfl (by decide) (by decide) ?_
  refine lw_arg (k := 2) (x := 2) C0 hW hi hl dL_law_279 dL_law_280 dL_law_281 dL_law_282 dL_law_283 rfl (by decide) (by decide) ?_
  refine lw_arg (k := 3) (x := 3) C0 hW hi hl dL_law_284 dL_law_285 dL_law_286 dL_law_287 dL_law_288 rfl (by decide) (by decide) ?_
  refine lw_c6 C0 hW (c_X6_set l E g v (xs (nI i + 1).toNatClampNeg) (xs (nI i + 2).toNatClampNeg) (xs (nI i + 3).toNatClampNeg) hz.zW C0.2.2.2.2.2.2.2.1) (cwV 3 C0.2.2.2.2.1 gL_law_X6_set rfl rfl rfl ⟨rfl, hd_X6_set⟩ ⟨(Nat.le_of_ble_eq_true rfl), (Nat.le_of_ble_eq_true rfl)⟩) rfl hl.1 rfl (Nat.le_of_ble_eq_true rfl) hf dL_law_289 (fun H locs hW => ?_)
  refine W.eq (g2 := F0 m 292 ls [.int (s_X6_set v (xs (nI i + 1).toNatClampNeg) (xs (nI i + 2).toNatClampNeg) (xs (nI i + 3).toNatClampNeg)).1, .int (s_X5_set u (xs (nI i + 1).toNatClampNeg) (xs (nI i + 2).toNatClampNeg) (xs (nI i + 3).toNatClampNeg)).1]) rfl ?_
  obtain ⟨e1, n2, e2⟩ := e_set hz (xs (nI i + 1).toNatClampNeg) (xs (nI i + 2).toNatClampNeg) (xs (nI i + 3).toNatClampNeg)
  exact lv_icmp_eq (tgt := 1342) C0.1 C0.2.1 dL_law_292 rfl (fun _ => kk _ _ _ _ _ e2 hW) (fun q => absurd e1 q)
set_option maxHeartbeats 4000000 in
set_option maxRecDepth 100000 in
theorem lw_case_3 (C0 : lw_C p s m c b L xs E a g) (hz : zR u v n) (hW : lw_W E s a g u v H locs) (hi : i + 6 < L) (hl : lv_has ls 4 [(3, .int (nI i)), (0, .ref b), (1, .ref (a 0)), (2, .ref (g 0))]) (hf : cells + 0 ≤ room_1.cells ∧ slots + 0 ≤ room_1.slots) (kk : ∀ (u' v' : xU) (n' : Nat) (H1 : Heap) (locs1 : List Loc), zR u' v' n' → lw_W E s a g u' v' H1 locs1 → W p l e room_1 s m #[Value.ref b] below meth c H1 locs1 cells slots Q (F0 m 1342 ls [])) : W p l e room_1 s m #[Value.ref b] below meth c H locs cells slots Q (F0 m 297 ls []) := by
  refine lv_aload_n C0.1 C0.2.1 dL_law_297 rfl (lv_at hl 2 rfl) ?_
  refine lw_arg (k := 1) (x := 1) C0 hW hi hl dL_law_298 dL_law_299 dL_law_300 dL_law_301 dL_law_302 rfl (by decide) (by decide) ?_
  refine lw_arg (k := 2) (x := 2) C0 hW hi hl dL_law_303 dL_law_304 dL_law_305 dL_law_306 dL_law_307 rfl (by decide) (by decide) ?_
  refine lw_c5r C0 hW (c_X5_of l E a u (xs (nI i + 1).toNatClampNeg) (xs (nI i + 2).toNatClampNeg)) (cwV 2 C0.2.2.2.2.1 gL_law_X5_of rfl rfl rfl ⟨rfl, hd_X5_of⟩ ⟨(Nat.le_of_ble_eq_true rfl), (Nat.le_of_ble_eq_true rfl)⟩) rfl hl.1 rfl (Nat.le_of_ble_eq_true rfl) hf dL_law_308 ?_
  refine W.eq (g2 := F0 m 311 ls [.int (s_X5_of u (xs (nI i + 1).toNatClampNeg) (xs (nI i + 2).toNatClampNeg))]) rfl ?_
  refine lv_aload_n C0.1 C0.2.1 dL_law_311 rfl (lv_at hl 3 rfl) ?_
  refine lw_arg (k := 1) (x := 1) C0 hW hi hl dL_law_312 dL_law_313 dL_law_314 dL_law_315 dL_law_316 rfl (by decide) (by decide) ?_
  refine lw_arg (k := 2) (x := 2) C0 hW hi hl dL_law_317 dL_law_318 dL_law_319 dL_law_320 dL_law_321 rfl (by decide) (by decide) ?_
  refine lw_c6r C0 hW (c_X6_of l E g v (xs (nI i + 1).toNatClampNeg) (xs (nI i + 2).toNatClampNeg) hz.zW) (cwV 2 C0.2.2.2.2.1 gL_law_X6_of rfl rfl rfl ⟨rfl, hd_X6_of⟩ ⟨(Nat.le_of_ble_eq_true rfl), (Nat.le_of_ble_eq_true rfl)⟩) rfl hl.1 rfl (Nat.le_of_ble_eq_true rfl) hf dL_law_322 ?_
  refine W.eq (g2 := F0 m 325 ls [.int (s_X6_of v (xs (nI i + 1).toNatClampNeg) (xs (nI i + 2).toNatClampNeg)), .int (s_X5_of u (xs (nI i + 1).toNatClampNeg) (xs (nI i + 2).toNatClampNeg))]) rfl ?_
  have e1 := e_of hz (xs (nI i + 1).toNatClampNeg) (xs (nI i + 2).toNatClampNeg)
  exact lv_icmp_eq (tgt := 1342) C0.1 C0.2.1 dL_law_325 rfl (fun _ => kk _ _ _ _ _ hz hW) (fun q => absurd e1 q)
set_option maxHeartbeats 4000000 in
set_option maxRecDepth 100000 in
theorem lw_case_4 (C0 : lw_C p s m c b L xs E a g) (hz : zR u v n) (hW : lw_W E s a g u v H locs) (hi : i + 6 < L) (hl : lv_has ls 4 [(3, .int (nI i)), (0, .ref b), (1, .ref (a 0)), (2, .ref (g 0))]) (hf : cells + 0 ≤ room_1.cells ∧ slots + 0 ≤ room_1.slots) (kk : ∀ (u' v' : xU) (n' : Nat) (H1 : Heap) (locs1 : List Loc), zR u' v' n' → lw_W E s a g u' v' H1 locs1 → W p l e room_1 s m #[Value.ref b] below meth c H1 locs1 cells slots Q (F0 m 1342 ls [])) : W p l e room_1 s m #[Value.ref b] below meth c H locs cells slots Q (F0 m 330 ls []) := by
  refine lv_aload_n C0.1 C0.2.1 dL_law_330 rfl (lv_at hl 2 rfl) ?_
  refine lw_arg (k := 1) (x := 1) C0 hW hi hl dL_law_331 dL_law_332 dL_law_333 dL_law_334 dL_law_335 rfl (by decide) (by decide) ?_
  refine lw_arg (k := 2) (x := 2) C0 hW hi hl dL_law_336 dL_law_337 dL_law_338 dL_law_339 dL_law_340 rfl (by decide) (by decide) ?_
  refine lw_c5r C0 hW (c_X5_taken l E a u (xs (nI i + 1).toNatClampNeg) (xs (nI i + 2).toNatClampNeg)) (cwV 2 C0.2.2.2.2.1 gL_law_X5_taken rfl rfl rfl ⟨rfl, hd_X5_taken⟩ ⟨(Nat.le_of_ble_eq_true rfl), (Nat.le_of_ble_eq_true rfl)⟩) rfl hl.1 rfl (Nat.le_of_ble_eq_true rfl) hf dL_law_341 ?_
  refine W.eq (g2 := F0 m 344 ls [.int (s_X5_taken u (xs (nI i + 1).toNatClampNeg) (xs (nI i + 2).toNatClampNeg))]) rfl ?_
  refine lv_aload_n C0.1 C0.2.1 dL_law_344 rfl (lv_at hl 3 rfl) ?_
  refine lw_arg (k := 1) (x := 1) C0 hW hi hl dL_law_345 dL_law_346 dL_law_347 dL_law_348 dL_law_349 rfl (by decide) (by decide) ?_
  refine lw_arg (k := 2) (x := 2) C0 hW hi hl dL_law_350 dL_law_351 dL_law_352 dL_law_353 dL_law_354 rfl (by decide) (by decide) ?_
  refine lw_c6r C0 hW (c_X6_taken l E g v (xs (nI i + 1).toNatClampNeg) (xs (nI i + 2).toNatClampNeg) hz.zW) (cwV 2 C0.2.2.2.2.1 gL_law_X6_taken rfl rfl rfl ⟨rfl, hd_X6_taken⟩ ⟨(Nat.le_of_ble_eq_true rfl), (Nat.le_of_ble_eq_true rfl)⟩) rfl hl.1 rfl (Nat.le_of_ble_eq_true rfl) hf dL_law_355 ?_
  refine W.eq (g2 := F0 m 358 ls [.int (s_X6_taken v (xs (nI i + 1).toNatClampNeg) (xs (nI i + 2).toNatClampNeg)), .int (s_X5_taken u (xs (nI i + 1).toNatClampNeg) (xs (nI i + 2).toNatClampNeg))]) rfl ?_
  have e1 := e_taken hz (xs (nI i + 1).toNatClampNeg) (xs (nI i + 2).toNatClampNeg)
  exact lv_icmp_eq (tgt := 1342) C0.1 C0.2.1 dL_law_358 rfl (fun _ => kk _ _ _ _ _ hz hW) (fun q => absurd e1 q)
set_option maxHeartbeats 4000000 in
set_option maxRecDepth 100000 in
theorem lw_case_5 (C0 : lw_C p s m c b L xs E a g) (hz : zR u v n) (hW : lw_W E s a g u v H locs) (hi : i + 6 < L) (hl : lv_has ls 4 [(3, .int (nI i)), (0, .ref b), (1, .ref (a 0)), (2, .ref (g 0))]) (hf : cells + 0 ≤ room_1.cells ∧ slots + 0 ≤ room_1.slots) (kk : ∀ (u' v' : xU) (n' : Nat) (H1 : Heap) (locs1 : List Loc), zR u' v' n' → lw_W E s a g u' v' H1 locs1 → W p l e room_1 s m #[Value.ref b] below meth c H1 locs1 cells slots Q (F0 m 1342 ls [])) : W p l e room_1 s m #[Value.ref b] below meth c H locs cells slots Q (F0 m 363 ls []) := by
  refine lv_aload_n C0.1 C0.2.1 dL_law_363 rfl (lv_at hl 2 rfl) ?_
  refine lw_arg (k := 1) (x := 1) C0 hW hi hl dL_law_364 dL_law_365 dL_law_366 dL_law_367 dL_law_368 rfl (by decide) (by decide) ?_
  refine lw_arg (k := 2) (x := 2) C0 hW hi hl dL_law_369 dL_law_370 dL_law_371 dL_law_372 dL_law_373 rfl (by decide) (by decide) ?_
  refine lw_c5 C0 hW (c_X5_rule l E a u (xs (nI i + 1).toNatClampNeg) (xs (nI i + 2).toNatClampNeg) C0.2.2.2.2.2.2.1) (cwV 2 C0.2.2.2.2.1 gL_law_X5_rule rfl rfl rfl ⟨rfl, hd_X5_rule⟩ ⟨(Nat.le_of_ble_eq_true rfl), (Nat.le_of_ble_eq_true rfl)⟩) rfl hl.1 rfl (Nat.le_of_ble_eq_true rfl) hf dL_law_374 (fun H locs hW => ?_)
  refine W.eq (g2 := F0 m 377 ls [.long (s_X5_rule u (xs (nI i + 1).toNatClampNeg) (xs (nI i + 2).toNatClampNeg)).1]) rfl ?_
  refine lv_aload_n C0.1 C0.2.1 dL_law_377 rfl (lv_at hl 3 rfl) ?_
  refine lw_arg (k := 1) (x := 1) C0 hW hi hl dL_law_378 dL_law_379 dL_law_380 dL_law_381 dL_law_382 rfl (by decide) (by decide) ?_
  refine lw_arg (k := 2) (x := 2) C0 hW hi hl dL_law_383 dL_law_384 dL_law_385 dL_law_386 dL_law_387 rfl (by decide) (by decide) ?_
  refine lw_c6 C0 hW (c_X6_rule_ l E g v (xs (nI i + 1).toNatClampNeg) (xs (nI i + 2).toNatClampNeg) C0.2.2.2.2.2.2.2.1) (cwV 2 C0.2.2.2.2.1 gL_law_X6_rule_ rfl rfl rfl ⟨rfl, hd_X6_rule_⟩ ⟨(Nat.le_of_ble_eq_true rfl), (Nat.le_of_ble_eq_true rfl)⟩) rfl hl.1 rfl (Nat.le_of_ble_eq_true rfl) hf dL_law_388 (fun H locs hW => ?_)
  refine W.eq (g2 := F0 m 391 ls [.long (s_X6_rule_ v (xs (nI i + 1).toNatClampNeg) (xs (nI i + 2).toNatClampNeg)).1, .long (s_X5_rule u (xs (nI i + 1).toNatClampNeg) (xs (nI i + 2).toNatClampNeg)).1]) rfl ?_
  obtain ⟨e1, n2, e2⟩ := e_rule hz (xs (nI i + 1).toNatClampNeg) (xs (nI i + 2).toNatClampNeg)
  refine W.lcmp C0.1 C0.2.1 dL_law_391 ?_
  exact lv_if_eq (tgt := 1342) C0.1 C0.2.1 dL_law_392 rfl (fun _ => kk _ _ _ _ _ e2 hW) (fun q => absurd ((lg_cmp_eq _ _).mpr e1) q)
set_option maxHeartbeats 4000000 in
set_option maxRecDepth 100000 in
theorem lw_case_6 (C0 : lw_C p s m c b L xs E a g) (hz : zR u v n) (hW : lw_W E s a g u v H locs) (hi : i + 6 < L) (hl : lv_has ls 4 [(3, .int (nI i)), (0, .ref b), (1, .ref (a 0)), (2, .ref (g 0))]) (hf : cells + 0 ≤ room_1.cells ∧ slots + 0 ≤ room_1.slots) (kk : ∀ (u' v' : xU) (n' : Nat) (H1 : Heap) (locs1 : List Loc), zR u' v' n' → lw_W E s a g u' v' H1 locs1 → W p l e room_1 s m #[Value.ref b] below meth c H1 locs1 cells slots Q (F0 m 1342 ls [])) : W p l e room_1 s m #[Value.ref b] below meth c H locs cells slots Q (F0 m 397 ls []) := by
  refine lv_aload_n C0.1 C0.2.1 dL_law_397 rfl (lv_at hl 2 rfl) ?_
  refine lw_arg (k := 1) (x := 1) C0 hW hi hl dL_law_398 dL_law_399 dL_law_400 dL_law_401 dL_law_402 rfl (by decide) (by decide) ?_
  refine lw_arg (k := 2) (x := 2) C0 hW hi hl dL_law_403 dL_law_404 dL_law_405 dL_law_406 dL_law_407 rfl (by decide) (by decide) ?_
  refine lw_c5r C0 hW (c_X5_at l E a u (xs (nI i + 1).toNatClampNeg) (xs (nI i + 2).toNatClampNeg)) (cwV 2 C0.2.2.2.2.1 gL_law_X5_at rfl rfl rfl ⟨rfl, hd_X5_at⟩ ⟨(Nat.le_of_ble_eq_true rfl), (Nat.le_of_ble_eq_true rfl)⟩) rfl hl.1 rfl (Nat.le_of_ble_eq_true rfl) hf dL_law_408 ?_
  refine W.eq (g2 := F0 m 411 ls [.long (s_X5_at u (xs (nI i + 1).toNatClampNeg) (xs (nI i + 2).toNatClampNeg))]) rfl ?_
  refine lv_aload_n C0.1 C0.2.1 dL_law_411 rfl (lv_at hl 3 rfl) ?_
  refine lw_arg (k := 1) (x := 1) C0 hW hi hl dL_law_412 dL_law_413 dL_law_414 dL_law_415 dL_law_416 rfl (by decide) (by decide) ?_
  refine lw_arg (k := 2) (x := 2) C0 hW hi hl dL_law_417 dL_law_418 dL_law_419 dL_law_420 dL_law_421 rfl (by decide) (by decide) ?_
  refine lw_c6 C0 hW (c_X6_at l E g v (xs (nI i + 1).toNatClampNeg) (xs (nI i + 2).toNatClampNeg) hz.zW C0.2.2.2.2.2.2.2.1) (cwV 2 C0.2.2.2.2.1 gL_law_X6_at rfl rfl rfl ⟨rfl, hd_X6_at⟩ ⟨(Nat.le_of_ble_eq_true rfl), (Nat.le_of_ble_eq_true rfl)⟩) rfl hl.1 rfl (Nat.le_of_ble_eq_true rfl) hf dL_law_422 (fun H locs hW => ?_)
  refine W.eq (g2 := F0 m 425 ls [.long (s_X6_at v (xs (nI i + 1).toNatClampNeg) (xs (nI i + 2).toNatClampNeg)).1, .long (s_X5_at u (xs (nI i + 1).toNatClampNeg) (xs (nI i + 2).toNatClampNeg))]) rfl ?_
  obtain ⟨e1, e2⟩ := e_at hz (xs (nI i + 1).toNatClampNeg) (xs (nI i + 2).toNatClampNeg)
  refine W.lcmp C0.1 C0.2.1 dL_law_425 ?_
  exact lv_if_eq (tgt := 1342) C0.1 C0.2.1 dL_law_426 rfl (fun _ => kk _ _ n _ _ (by rw [e2]; exact (zR_lays hz).1) hW) (fun q => absurd ((lg_cmp_eq _ _).mpr e1) q)
set_option maxHeartbeats 4000000 in
set_option maxRecDepth 100000 in
theorem lw_case_7 (C0 : lw_C p s m c b L xs E a g) (hz : zR u v n) (hW : lw_W E s a g u v H locs) (hi : i + 6 < L) (hl : lv_has ls 4 [(3, .int (nI i)), (0, .ref b), (1, .ref (a 0)), (2, .ref (g 0))]) (hf : cells + 0 ≤ room_1.cells ∧ slots + 0 ≤ room_1.slots) (kk : ∀ (u' v' : xU) (n' : Nat) (H1 : Heap) (locs1 : List Loc), zR u' v' n' → lw_W E s a g u' v' H1 locs1 → W p l e room_1 s m #[Value.ref b] below meth c H1 locs1 cells slots Q (F0 m 1342 ls [])) : W p l e room_1 s m #[Value.ref b] below meth c H locs cells slots Q (F0 m 431 ls []) := by
  refine lv_aload_n C0.1 C0.2.1 dL_law_431 rfl (lv_at hl 2 rfl) ?_
  refine lw_arg (k := 1) (x := 1) C0 hW hi hl dL_law_432 dL_law_433 dL_law_434 dL_law_435 dL_law_436 rfl (by decide) (by decide) ?_
  refine lw_c5r C0 hW (c_X5_scaled l E a u (xs (nI i + 1).toNatClampNeg)) (cwV 1 C0.2.2.2.2.1 gL_law_X5_scaled rfl rfl rfl ⟨rfl, hd_X5_scaled⟩ ⟨(Nat.le_of_ble_eq_true rfl), (Nat.le_of_ble_eq_true rfl)⟩) rfl hl.1 rfl (Nat.le_of_ble_eq_true rfl) hf dL_law_437 ?_
  refine W.eq (g2 := F0 m 440 ls [.long (s_X5_scaled u (xs (nI i + 1).toNatClampNeg))]) rfl ?_
  refine lv_aload_n C0.1 C0.2.1 dL_law_440 rfl (lv_at hl 3 rfl) ?_
  refine lw_arg (k := 1) (x := 1) C0 hW hi hl dL_law_441 dL_law_442 dL_law_443 dL_law_444 dL_law_445 rfl (by decide) (by decide) ?_
  refine lw_c6 C0 hW (c_X6_scaled l E g v (xs (nI i + 1).toNatClampNeg) hz.zW C0.2.2.2.2.2.2.2.1) (cwV 1 C0.2.2.2.2.1 gL_law_X6_scaled rfl rfl rfl ⟨rfl, hd_X6_scaled⟩ ⟨(Nat.le_of_ble_eq_true rfl), (Nat.le_of_ble_eq_true rfl)⟩) rfl hl.1 rfl (Nat.le_of_ble_eq_true rfl) hf dL_law_446 (fun H locs hW => ?_)
  refine W.eq (g2 := F0 m 449 ls [.long (s_X6_scaled v (xs (nI i + 1).toNatClampNeg)).1, .long (s_X5_scaled u (xs (nI i + 1).toNatClampNeg))]) rfl ?_
  obtain ⟨e1, e2⟩ := e_scaled hz (xs (nI i + 1).toNatClampNeg)
  refine W.lcmp C0.1 C0.2.1 dL_law_449 ?_
  exact lv_if_eq (tgt := 1342) C0.1 C0.2.1 dL_law_450 rfl (fun _ => kk _ _ n _ _ (by rw [e2]; exact (zR_lays hz).1) hW) (fun q => absurd ((lg_cmp_eq _ _).mpr e1) q)
set_option maxHeartbeats 4000000 in
set_option maxRecDepth 100000 in
theorem lw_case_8 (C0 : lw_C p s m c b L xs E a g) (hz : zR u v n) (hW : lw_W E s a g u v H locs) (hi : i + 6 < L) (hl : lv_has ls 4 [(3, .int (nI i)), (0, .ref b), (1, .ref (a 0)), (2, .ref (g 0))]) (hf : cells + 0 ≤ room_1.cells ∧ slots + 0 ≤ room_1.slots) (kk : ∀ (u' v' : xU) (n' : Nat) (H1 : Heap) (locs1 : List Loc), zR u' v' n' → lw_W E s a g u' v' H1 locs1 → W p l e room_1 s m #[Value.ref b] below meth c H1 locs1 cells slots Q (F0 m 1342 ls [])) : W p l e room_1 s m #[Value.ref b] below meth c H locs cells slots Q (F0 m 455 ls []) := by
  refine lv_aload_n C0.1 C0.2.1 dL_law_455 rfl (lv_at hl 2 rfl) ?_
  refine lw_arg (k := 1) (x := 1) C0 hW hi hl dL_law_456 dL_law_457 dL_law_458 dL_law_459 dL_law_460 rfl (by decide) (by decide) ?_
  refine lw_arg (k := 2) (x := 2) C0 hW hi hl dL_law_461 dL_law_462 dL_law_463 dL_law_464 dL_law_465 rfl (by decide) (by decide) ?_
  refine lw_c5r C0 hW (c_X5_join l E a u (xs (nI i + 1).toNatClampNeg) (xs (nI i + 2).toNatClampNeg)) (cwV 2 C0.2.2.2.2.1 gL_law_X5_join rfl rfl rfl ⟨rfl, hd_X5_join⟩ ⟨(Nat.le_of_ble_eq_true rfl), (Nat.le_of_ble_eq_true rfl)⟩) rfl hl.1 rfl (Nat.le_of_ble_eq_true rfl) hf dL_law_466 ?_
  refine W.eq (g2 := F0 m 469 ls [.int (s_X5_join u (xs (nI i + 1).toNatClampNeg) (xs (nI i + 2).toNatClampNeg))]) rfl ?_
  refine lv_aload_n C0.1 C0.2.1 dL_law_469 rfl (lv_at hl 3 rfl) ?_
  refine lw_arg (k := 1) (x := 1) C0 hW hi hl dL_law_470 dL_law_471 dL_law_472 dL_law_473 dL_law_474 rfl (by decide) (by decide) ?_
  refine lw_arg (k := 2) (x := 2) C0 hW hi hl dL_law_475 dL_law_476 dL_law_477 dL_law_478 dL_law_479 rfl (by decide) (by decide) ?_
  refine lw_c6 C0 hW (c_X6_join l E g v (xs (nI i + 1).toNatClampNeg) (xs (nI i + 2).toNatClampNeg) hz.zW C0.2.2.2.2.2.2.2.1) (cwV 2 C0.2.2.2.2.1 gL_law_X6_join rfl rfl rfl ⟨rfl, hd_X6_join⟩ ⟨(Nat.le_of_ble_eq_true rfl), (Nat.le_of_ble_eq_true rfl)⟩) rfl hl.1 rfl (Nat.le_of_ble_eq_true rfl) hf dL_law_480 (fun H locs hW => ?_)
  refine W.eq (g2 := F0 m 483 ls [.int (s_X6_join v (xs (nI i + 1).toNatClampNeg) (xs (nI i + 2).toNatClampNeg)).1, .int (s_X5_join u (xs (nI i + 1).toNatClampNeg) (xs (nI i + 2).toNatClampNeg))]) rfl ?_
  obtain ⟨e1, e2⟩ := e_join hz (xs (nI i + 1).toNatClampNeg) (xs (nI i + 2).toNatClampNeg)
  exact lv_icmp_eq (tgt := 1342) C0.1 C0.2.1 dL_law_483 rfl (fun _ => kk _ _ n _ _ (by rcases e2 with q | q <;> rw [q]; exact (zR_lays hz).1; exact hz) hW) (fun q => absurd e1 q)
set_option maxHeartbeats 4000000 in
set_option maxRecDepth 100000 in
theorem lw_case_9 (C0 : lw_C p s m c b L xs E a g) (hz : zR u v n) (hW : lw_W E s a g u v H locs) (hi : i + 6 < L) (hl : lv_has ls 4 [(3, .int (nI i)), (0, .ref b), (1, .ref (a 0)), (2, .ref (g 0))]) (hf : cells + 0 ≤ room_1.cells ∧ slots + 0 ≤ room_1.slots) (kk : ∀ (u' v' : xU) (n' : Nat) (H1 : Heap) (locs1 : List Loc), zR u' v' n' → lw_W E s a g u' v' H1 locs1 → W p l e room_1 s m #[Value.ref b] below meth c H1 locs1 cells slots Q (F0 m 1342 ls [])) : W p l e room_1 s m #[Value.ref b] below meth c H locs cells slots Q (F0 m 488 ls []) := by
  refine lv_aload_n C0.1 C0.2.1 dL_law_488 rfl (lv_at hl 2 rfl) ?_
  refine lw_c5r C0 hW (c_X5_joins l E a u) (cwV 0 C0.2.2.2.2.1 gL_law_X5_joins rfl rfl rfl ⟨rfl, hd_X5_joins⟩ ⟨(Nat.le_of_ble_eq_true rfl), (Nat.le_of_ble_eq_true rfl)⟩) rfl hl.1 rfl (Nat.le_of_ble_eq_true rfl) hf dL_law_489 ?_
  refine W.eq (g2 := F0 m 492 ls [.int (s_X5_joins u)]) rfl ?_
  refine lv_aload_n C0.1 C0.2.1 dL_law_492 rfl (lv_at hl 3 rfl) ?_
  refine lw_c6 C0 hW (c_X6_joins l E g v hz.zW C0.2.2.2.2.2.2.2.1) (cwV 0 C0.2.2.2.2.1 gL_law_X6_joins rfl rfl rfl ⟨rfl, hd_X6_joins⟩ ⟨(Nat.le_of_ble_eq_true rfl), (Nat.le_of_ble_eq_true rfl)⟩) rfl hl.1 rfl (Nat.le_of_ble_eq_true rfl) hf dL_law_493 (fun H locs hW => ?_)
  refine W.eq (g2 := F0 m 496 ls [.int (s_X6_joins v).1, .int (s_X5_joins u)]) rfl ?_
  obtain ⟨e1, e2⟩ := e_joins hz
  exact lv_icmp_eq (tgt := 1342) C0.1 C0.2.1 dL_law_496 rfl (fun _ => kk _ _ n _ _ (by rw [e2]; exact (zR_lays hz).1) hW) (fun q => absurd e1 q)
set_option maxHeartbeats 4000000 in
set_option maxRecDepth 100000 in
theorem lw_case_10 (C0 : lw_C p s m c b L xs E a g) (hz : zR u v n) (hW : lw_W E s a g u v H locs) (hi : i + 6 < L) (hl : lv_has ls 4 [(3, .int (nI i)), (0, .ref b), (1, .ref (a 0)), (2, .ref (g 0))]) (hf : cells + 0 ≤ room_1.cells ∧ slots + 0 ≤ room_1.slots) (kk : ∀ (u' v' : xU) (n' : Nat) (H1 : Heap) (locs1 : List Loc), zR u' v' n' → lw_W E s a g u' v' H1 locs1 → W p l e room_1 s m #[Value.ref b] below meth c H1 locs1 cells slots Q (F0 m 1342 ls [])) : W p l e room_1 s m #[Value.ref b] below meth c H locs cells slots Q (F0 m 501 ls []) := by
  refine lv_aload_n C0.1 C0.2.1 dL_law_501 rfl (lv_at hl 2 rfl) ?_
  refine lw_arg (k := 1) (x := 1) C0 hW hi hl dL_law_502 dL_law_503 dL_law_504 dL_law_505 dL_law_506 rfl (by decide) (by decide) ?_
  refine lw_arg (k := 2) (x := 2) C0 hW hi hl dL_law_507 dL_law_508 dL_law_509 dL_law_510 dL_law_511 rfl (by decide) (by decide) ?_
  refine lw_c5r C0 hW (c_X5_need l E a u (xs (nI i + 1).toNatClampNeg) (xs (nI i + 2).toNatClampNeg)) (cwV 2 C0.2.2.2.2.1 gL_law_X5_need rfl rfl rfl ⟨rfl, hd_X5_need⟩ ⟨(Nat.le_of_ble_eq_true rfl), (Nat.le_of_ble_eq_true rfl)⟩) rfl hl.1 rfl (Nat.le_of_ble_eq_true rfl) hf dL_law_512 ?_
  refine W.eq (g2 := F0 m 515 ls [.int (s_X5_need u (xs (nI i + 1).toNatClampNeg) (xs (nI i + 2).toNatClampNeg))]) rfl ?_
  refine lv_aload_n C0.1 C0.2.1 dL_law_515 rfl (lv_at hl 3 rfl) ?_
  refine lw_arg (k := 1) (x := 1) C0 hW hi hl dL_law_516 dL_law_517 dL_law_518 dL_law_519 dL_law_520 rfl (by decide) (by decide) ?_
  refine lw_arg (k := 2) (x := 2) C0 hW hi hl dL_law_521 dL_law_522 dL_law_523 dL_law_524 dL_law_525 rfl (by decide) (by decide) ?_
  refine lw_c6 C0 hW (c_X6_need l E g v (xs (nI i + 1).toNatClampNeg) (xs (nI i + 2).toNatClampNeg) hz.zW C0.2.2.2.2.2.2.2.1) (cwV 2 C0.2.2.2.2.1 gL_law_X6_need rfl rfl rfl ⟨rfl, hd_X6_need⟩ ⟨(Nat.le_of_ble_eq_true rfl), (Nat.le_of_ble_eq_true rfl)⟩) rfl hl.1 rfl (Nat.le_of_ble_eq_true rfl) hf dL_law_526 (fun H locs hW => ?_)
  refine W.eq (g2 := F0 m 529 ls [.int (s_X6_need v (xs (nI i + 1).toNatClampNeg) (xs (nI i + 2).toNatClampNeg)).1, .int (s_X5_need u (xs (nI i + 1).toNatClampNeg) (xs (nI i + 2).toNatClampNeg))]) rfl ?_
  obtain ⟨e1, e2⟩ := e_need hz (xs (nI i + 1).toNatClampNeg) (xs (nI i + 2).toNatClampNeg)
  exact lv_icmp_eq (tgt := 1342) C0.1 C0.2.1 dL_law_529 rfl (fun _ => kk _ _ n _ _ (by rw [e2]; exact (zR_lays hz).1) hW) (fun q => absurd e1 q)
set_option maxHeartbeats 4000000 in
set_option maxRecDepth 100000 in
theorem lw_case_11 (C0 : lw_C p s m c b L xs E a g) (hz : zR u v n) (hW : lw_W E s a g u v H locs) (hi : i + 6 < L) (hl : lv_has ls 4 [(3, .int (nI i)), (0, .ref b), (1, .ref (a 0)), (2, .ref (g 0))]) (hf : cells + 0 ≤ room_1.cells ∧ slots + 0 ≤ room_1.slots) (kk : ∀ (u' v' : xU) (n' : Nat) (H1 : Heap) (locs1 : List Loc), zR u' v' n' → lw_W E s a g u' v' H1 locs1 → W p l e room_1 s m #[Value.ref b] below meth c H1 locs1 cells slots Q (F0 m 1342 ls [])) : W p l e room_1 s m #[Value.ref b] below meth c H locs cells slots Q (F0 m 534 ls []) := by
  refine lv_aload_n C0.1 C0.2.1 dL_law_534 rfl (lv_at hl 2 rfl) ?_
  refine lw_arg (k := 1) (x := 1) C0 hW hi hl dL_law_535 dL_law_536 dL_law_537 dL_law_538 dL_law_539 rfl (by decide) (by decide) ?_
  refine lw_c5r C0 hW (c_X5_fault l E a u (xs (nI i + 1).toNatClampNeg) hz.zS) (cwV 1 C0.2.2.2.2.1 gL_law_X5_fault rfl rfl rfl ⟨rfl, hd_X5_fault⟩ ⟨(Nat.le_of_ble_eq_true rfl), (Nat.le_of_ble_eq_true rfl)⟩) rfl hl.1 rfl (Nat.le_of_ble_eq_true rfl) hf dL_law_540 ?_
  refine W.eq (g2 := F0 m 543 ls [.int (s_X5_fault u (xs (nI i + 1).toNatClampNeg))]) rfl ?_
  refine lv_aload_n C0.1 C0.2.1 dL_law_543 rfl (lv_at hl 3 rfl) ?_
  refine lw_arg (k := 1) (x := 1) C0 hW hi hl dL_law_544 dL_law_545 dL_law_546 dL_law_547 dL_law_548 rfl (by decide) (by decide) ?_
  refine lw_c6 C0 hW (c_X6_fault l E g v (xs (nI i + 1).toNatClampNeg) hz.zW C0.2.2.2.2.2.2.2.1) (cwV 1 C0.2.2.2.2.1 gL_law_X6_fault rfl rfl rfl ⟨rfl, hd_X6_fault⟩ ⟨(Nat.le_of_ble_eq_true rfl), (Nat.le_of_ble_eq_true rfl)⟩) rfl hl.1 rfl (Nat.le_of_ble_eq_true rfl) hf dL_law_549 (fun H locs hW => ?_)
  refine W.eq (g2 := F0 m 552 ls [.int (s_X6_fault v (xs (nI i + 1).toNatClampNeg)).1, .int (s_X5_fault u (xs (nI i + 1).toNatClampNeg))]) rfl ?_
  obtain ⟨e1, e2⟩ := e_fault hz (xs (nI i + 1).toNatClampNeg)
  exact lv_icmp_eq (tgt := 1342) C0.1 C0.2.1 dL_law_552 rfl (fun _ => kk _ _ _ _ _ e2 hW) (fun q => absurd e1 q)
set_option maxHeartbeats 4000000 in
set_option maxRecDepth 100000 in
theorem lw_case_12 (C0 : lw_C p s m c b L xs E a g) (hz : zR u v n) (hW : lw_W E s a g u v H locs) (hi : i + 6 < L) (hl : lv_has ls 4 [(3, .int (nI i)), (0, .ref b), (1, .ref (a 0)), (2, .ref (g 0))]) (hf : cells + 0 ≤ room_1.cells ∧ slots + 0 ≤ room_1.slots) (kk : ∀ (u' v' : xU) (n' : Nat) (H1 : Heap) (locs1 : List Loc), zR u' v' n' → lw_W E s a g u' v' H1 locs1 → W p l e room_1 s m #[Value.ref b] below meth c H1 locs1 cells slots Q (F0 m 1342 ls [])) : W p l e room_1 s m #[Value.ref b] below meth c H locs cells slots Q (F0 m 557 ls []) := by
  refine lv_aload_n C0.1 C0.2.1 dL_law_557 rfl (lv_at hl 2 rfl) ?_
  refine lw_arg (k := 1) (x := 1) C0 hW hi hl dL_law_558 dL_law_559 dL_law_560 dL_law_561 dL_law_562 rfl (by decide) (by decide) ?_
  refine lw_c5r C0 hW (c_X5_may l E a u (xs (nI i + 1).toNatClampNeg)) (cwV 1 C0.2.2.2.2.1 gL_law_X5_may rfl rfl rfl ⟨rfl, hd_X5_may⟩ ⟨(Nat.le_of_ble_eq_true rfl), (Nat.le_of_ble_eq_true rfl)⟩) rfl hl.1 rfl (Nat.le_of_ble_eq_true rfl) hf dL_law_563 ?_
  refine W.eq (g2 := F0 m 566 ls [.int (s_X5_may u (xs (nI i + 1).toNatClampNeg))]) rfl ?_
  refine lv_aload_n C0.1 C0.2.1 dL_law_566 rfl (lv_at hl 3 rfl) ?_
  refine lw_arg (k := 1) (x := 1) C0 hW hi hl dL_law_567 dL_law_568 dL_law_569 dL_law_570 dL_law_571 rfl (by decide) (by decide) ?_
  refine lw_c6 C0 hW (c_X6_may_ l E g v (xs (nI i + 1).toNatClampNeg) hz.zW C0.2.2.2.2.2.2.2.1) (cwV 1 C0.2.2.2.2.1 gL_law_X6_may_ rfl rfl rfl ⟨rfl, hd_X6_may_⟩ ⟨(Nat.le_of_ble_eq_true rfl), (Nat.le_of_ble_eq_true rfl)⟩) rfl hl.1 rfl (Nat.le_of_ble_eq_true rfl) hf dL_law_572 (fun H locs hW => ?_)
  refine W.eq (g2 := F0 m 575 ls [.int (s_X6_may_ v (xs (nI i + 1).toNatClampNeg)).1, .int (s_X5_may u (xs (nI i + 1).toNatClampNeg))]) rfl ?_
  obtain ⟨e1, e2⟩ := e_may hz (xs (nI i + 1).toNatClampNeg)
  exact lv_icmp_eq (tgt := 1342) C0.1 C0.2.1 dL_law_575 rfl (fun _ => kk _ _ n _ _ (by rw [e2]; exact (zR_lays hz).1) hW) (fun q => absurd e1 q)
set_option maxHeartbeats 4000000 in
set_option maxRecDepth 100000 in
theorem lw_case_13 (C0 : lw_C p s m c b L xs E a g) (hz : zR u v n) (hW : lw_W E s a g u v H locs) (hi : i + 6 < L) (hl : lv_has ls 4 [(3, .int (nI i)), (0, .ref b), (1, .ref (a 0)), (2, .ref (g 0))]) (hf : cells + 0 ≤ room_1.cells ∧ slots + 0 ≤ room_1.slots) (kk : ∀ (u' v' : xU) (n' : Nat) (H1 : Heap) (locs1 : List Loc), zR u' v' n' → lw_W E s a g u' v' H1 locs1 → W p l e room_1 s m #[Value.ref b] below meth c H1 locs1 cells slots Q (F0 m 1342 ls [])) : W p l e room_1 s m #[Value.ref b] below meth c H locs cells slots Q (F0 m 580 ls []) := by
  refine lv_aload_n C0.1 C0.2.1 dL_law_580 rfl (lv_at hl 2 rfl) ?_
  refine lw_c5r C0 hW (c_X5_limit l E a u hz.zS) (cwV 0 C0.2.2.2.2.1 gL_law_X5_limit rfl rfl rfl ⟨rfl, hd_X5_limit⟩ ⟨(Nat.le_of_ble_eq_true rfl), (Nat.le_of_ble_eq_true rfl)⟩) rfl hl.1 rfl (Nat.le_of_ble_eq_true rfl) hf dL_law_581 ?_
  refine W.eq (g2 := F0 m 584 ls [.int (s_X5_limit u)]) rfl ?_
  refine lv_aload_n C0.1 C0.2.1 dL_law_584 rfl (lv_at hl 3 rfl) ?_
  refine lw_c6 C0 hW (c_X6_limit l E g v hz.zW C0.2.2.2.2.2.2.2.1) (cwV 0 C0.2.2.2.2.1 gL_law_X6_limit rfl rfl rfl ⟨rfl, hd_X6_limit⟩ ⟨(Nat.le_of_ble_eq_true rfl), (Nat.le_of_ble_eq_true rfl)⟩) rfl hl.1 rfl (Nat.le_of_ble_eq_true rfl) hf dL_law_585 (fun H locs hW => ?_)
  refine W.eq (g2 := F0 m 588 ls [.int (s_X6_limit v).1, .int (s_X5_limit u)]) rfl ?_
  obtain ⟨e1, e2⟩ := e_limit hz
  exact lv_icmp_eq (tgt := 1342) C0.1 C0.2.1 dL_law_588 rfl (fun _ => kk _ _ n _ _ (by rw [e2]; exact (zR_lays hz).1) hW) (fun q => absurd e1 q)
set_option maxHeartbeats 4000000 in
set_option maxRecDepth 100000 in
theorem lw_case_14 (C0 : lw_C p s m c b L xs E a g) (hz : zR u v n) (hW : lw_W E s a g u v H locs) (hi : i + 6 < L) (hl : lv_has ls 4 [(3, .int (nI i)), (0, .ref b), (1, .ref (a 0)), (2, .ref (g 0))]) (hf : cells + 0 ≤ room_1.cells ∧ slots + 0 ≤ room_1.slots) (kk : ∀ (u' v' : xU) (n' : Nat) (H1 : Heap) (locs1 : List Loc), zR u' v' n' → lw_W E s a g u' v' H1 locs1 → W p l e room_1 s m #[Value.ref b] below meth c H1 locs1 cells slots Q (F0 m 1342 ls [])) : W p l e room_1 s m #[Value.ref b] below meth c H locs cells slots Q (F0 m 593 ls []) := by
  refine lv_aload_n C0.1 C0.2.1 dL_law_593 rfl (lv_at hl 2 rfl) ?_
  refine lw_arg (k := 1) (x := 1) C0 hW hi hl dL_law_594 dL_law_595 dL_law_596 dL_law_597 dL_law_598 rfl (by decide) (by decide) ?_
  refine lw_c5 C0 hW (hz.zL l E a (xs (nI i + 1).toNatClampNeg) C0.2.2.2.2.2.2.1) (cwV 1 C0.2.2.2.2.1 gL_law_X5_least rfl rfl rfl ⟨rfl, hd_X5_least⟩ ⟨(Nat.le_of_ble_eq_true rfl), (Nat.le_of_ble_eq_true rfl)⟩) rfl hl.1 rfl (Nat.le_of_ble_eq_true rfl) hf dL_law_599 (fun H locs hW => ?_)
  refine W.eq (g2 := F0 m 602 ls [.int (s_X5_least u (xs (nI i + 1).toNatClampNeg)).1]) rfl ?_
  refine lv_aload_n C0.1 C0.2.1 dL_law_602 rfl (lv_at hl 3 rfl) ?_
  refine lw_arg (k := 1) (x := 1) C0 hW hi hl dL_law_603 dL_law_604 dL_law_605 dL_law_606 dL_law_607 rfl (by decide) (by decide) ?_
  refine lw_c6 C0 hW (c_X6_least l E g v (xs (nI i + 1).toNatClampNeg) hz.zW C0.2.2.2.2.2.2.2.1) (cwV 1 C0.2.2.2.2.1 gL_law_X6_least rfl rfl rfl ⟨rfl, hd_X6_least⟩ ⟨(Nat.le_of_ble_eq_true rfl), (Nat.le_of_ble_eq_true rfl)⟩) rfl hl.1 rfl (Nat.le_of_ble_eq_true rfl) hf dL_law_608 (fun H locs hW => ?_)
  refine W.eq (g2 := F0 m 611 ls [.int (s_X6_least v (xs (nI i + 1).toNatClampNeg)).1, .int (s_X5_least u (xs (nI i + 1).toNatClampNeg)).1]) rfl ?_
  obtain ⟨e1, n2, e2⟩ := e_least hz (xs (nI i + 1).toNatClampNeg)
  exact lv_icmp_eq (tgt := 1342) C0.1 C0.2.1 dL_law_611 rfl (fun _ => kk _ _ _ _ _ e2 hW) (fun q => absurd e1 q)
set_option maxHeartbeats 4000000 in
set_option maxRecDepth 100000 in
theorem lw_case_15 (C0 : lw_C p s m c b L xs E a g) (hz : zR u v n) (hW : lw_W E s a g u v H locs) (hi : i + 6 < L) (hl : lv_has ls 4 [(3, .int (nI i)), (0, .ref b), (1, .ref (a 0)), (2, .ref (g 0))]) (hf : cells + 0 ≤ room_1.cells ∧ slots + 0 ≤ room_1.slots) (kk : ∀ (u' v' : xU) (n' : Nat) (H1 : Heap) (locs1 : List Loc), zR u' v' n' → lw_W E s a g u' v' H1 locs1 → W p l e room_1 s m #[Value.ref b] below meth c H1 locs1 cells slots Q (F0 m 1342 ls [])) : W p l e room_1 s m #[Value.ref b] below meth c H locs cells slots Q (F0 m 616 ls []) := by
  refine lv_aload_n C0.1 C0.2.1 dL_law_616 rfl (lv_at hl 2 rfl) ?_
  refine lw_arg (k := 1) (x := 1) C0 hW hi hl dL_law_617 dL_law_618 dL_law_619 dL_law_620 dL_law_621 rfl (by decide) (by decide) ?_
  refine lw_c5r C0 hW (c_X5_miss l E a u (xs (nI i + 1).toNatClampNeg)) (cwV 1 C0.2.2.2.2.1 gL_law_X5_miss rfl rfl rfl ⟨rfl, hd_X5_miss⟩ ⟨(Nat.le_of_ble_eq_true rfl), (Nat.le_of_ble_eq_true rfl)⟩) rfl hl.1 rfl (Nat.le_of_ble_eq_true rfl) hf dL_law_622 ?_
  refine W.eq (g2 := F0 m 625 ls [.long (s_X5_miss u (xs (nI i + 1).toNatClampNeg))]) rfl ?_
  refine lv_aload_n C0.1 C0.2.1 dL_law_625 rfl (lv_at hl 3 rfl) ?_
  refine lw_arg (k := 1) (x := 1) C0 hW hi hl dL_law_626 dL_law_627 dL_law_628 dL_law_629 dL_law_630 rfl (by decide) (by decide) ?_
  refine lw_c6 C0 hW (c_X6_miss l E g v (xs (nI i + 1).toNatClampNeg) hz.zW C0.2.2.2.2.2.2.2.1) (cwV 1 C0.2.2.2.2.1 gL_law_X6_miss rfl rfl rfl ⟨rfl, hd_X6_miss⟩ ⟨(Nat.le_of_ble_eq_true rfl), (Nat.le_of_ble_eq_true rfl)⟩) rfl hl.1 rfl (Nat.le_of_ble_eq_true rfl) hf dL_law_631 (fun H locs hW => ?_)
  refine W.eq (g2 := F0 m 634 ls [.long (s_X6_miss v (xs (nI i + 1).toNatClampNeg)).1, .long (s_X5_miss u (xs (nI i + 1).toNatClampNeg))]) rfl ?_
  obtain ⟨e1, e2⟩ := e_miss hz (xs (nI i + 1).toNatClampNeg)
  refine W.lcmp C0.1 C0.2.1 dL_law_634 ?_
  exact lv_if_eq (tgt := 1342) C0.1 C0.2.1 dL_law_635 rfl (fun _ => kk _ _ n _ _ (by rcases e2 with q | q <;> rw [q]; exact (zR_lays hz).1; exact hz) hW) (fun q => absurd ((lg_cmp_eq _ _).mpr e1) q)
set_option maxHeartbeats 4000000 in
set_option maxRecDepth 100000 in
theorem lw_case_16 (C0 : lw_C p s m c b L xs E a g) (hz : zR u v n) (hW : lw_W E s a g u v H locs) (hi : i + 6 < L) (hl : lv_has ls 4 [(3, .int (nI i)), (0, .ref b), (1, .ref (a 0)), (2, .ref (g 0))]) (hf : cells + 0 ≤ room_1.cells ∧ slots + 0 ≤ room_1.slots) (kk : ∀ (u' v' : xU) (n' : Nat) (H1 : Heap) (locs1 : List Loc), zR u' v' n' → lw_W E s a g u' v' H1 locs1 → W p l e room_1 s m #[Value.ref b] below meth c H1 locs1 cells slots Q (F0 m 1342 ls [])) : W p l e room_1 s m #[Value.ref b] below meth c H locs cells slots Q (F0 m 640 ls []) := by
  refine lv_aload_n C0.1 C0.2.1 dL_law_640 rfl (lv_at hl 2 rfl) ?_
  refine lw_arg (k := 1) (x := 1) C0 hW hi hl dL_law_641 dL_law_642 dL_law_643 dL_law_644 dL_law_645 rfl (by decide) (by decide) ?_
  refine lw_c5 C0 hW (c_X5_meets l E a u (xs (nI i + 1).toNatClampNeg) hz.xv C0.2.2.2.2.2.2.1) (cwV 1 C0.2.2.2.2.1 gL_law_X5_meets rfl rfl rfl ⟨rfl, hd_X5_meets⟩ ⟨(Nat.le_of_ble_eq_true rfl), (Nat.le_of_ble_eq_true rfl)⟩) rfl hl.1 rfl (Nat.le_of_ble_eq_true rfl) hf dL_law_646 (fun H locs hW => ?_)
  refine W.eq (g2 := F0 m 649 ls [.int (s_X5_meets u (xs (nI i + 1).toNatClampNeg)).1]) rfl ?_
  refine lv_aload_n C0.1 C0.2.1 dL_law_649 rfl (lv_at hl 3 rfl) ?_
  refine lw_arg (k := 1) (x := 1) C0 hW hi hl dL_law_650 dL_law_651 dL_law_652 dL_law_653 dL_law_654 rfl (by decide) (by decide) ?_
  refine lw_c6 C0 hW (c_X6_meets l E g v (xs (nI i + 1).toNatClampNeg) hz.zW C0.2.2.2.2.2.2.2.1) (cwV 1 C0.2.2.2.2.1 gL_law_X6_meets rfl rfl rfl ⟨rfl, hd_X6_meets⟩ ⟨(Nat.le_of_ble_eq_true rfl), (Nat.le_of_ble_eq_true rfl)⟩) rfl hl.1 rfl (Nat.le_of_ble_eq_true rfl) hf dL_law_655 (fun H locs hW => ?_)
  refine W.eq (g2 := F0 m 658 ls [.int (s_X6_meets v (xs (nI i + 1).toNatClampNeg)).1, .int (s_X5_meets u (xs (nI i + 1).toNatClampNeg)).1]) rfl ?_
  obtain ⟨e1, n2, e2⟩ := e_meets hz (xs (nI i + 1).toNatClampNeg)
  exact lv_icmp_eq (tgt := 1342) C0.1 C0.2.1 dL_law_658 rfl (fun _ => kk _ _ _ _ _ e2 hW) (fun q => absurd e1 q)
set_option maxHeartbeats 4000000 in
set_option maxRecDepth 100000 in
theorem lw_case_17 (C0 : lw_C p s m c b L xs E a g) (hz : zR u v n) (hW : lw_W E s a g u v H locs) (hi : i + 6 < L) (hl : lv_has ls 4 [(3, .int (nI i)), (0, .ref b), (1, .ref (a 0)), (2, .ref (g 0))]) (hf : cells + 0 ≤ room_1.cells ∧ slots + 0 ≤ room_1.slots) (kk : ∀ (u' v' : xU) (n' : Nat) (H1 : Heap) (locs1 : List Loc), zR u' v' n' → lw_W E s a g u' v' H1 locs1 → W p l e room_1 s m #[Value.ref b] below meth c H1 locs1 cells slots Q (F0 m 1342 ls [])) : W p l e room_1 s m #[Value.ref b] below meth c H locs cells slots Q (F0 m 663 ls []) := by
  refine lv_aload_n C0.1 C0.2.1 dL_law_663 rfl (lv_at hl 2 rfl) ?_
  refine lw_arg (k := 1) (x := 1) C0 hW hi hl dL_law_664 dL_law_665 dL_law_666 dL_law_667 dL_law_668 rfl (by decide) (by decide) ?_
  refine lw_arg (k := 2) (x := 2) C0 hW hi hl dL_law_669 dL_law_670 dL_law_671 dL_law_672 dL_law_673 rfl (by decide) (by decide) ?_
  refine lw_c5 C0 hW (c_X5_both l E a u (xs (nI i + 1).toNatClampNeg) (xs (nI i + 2).toNatClampNeg) hz.xv C0.2.2.2.2.2.2.1) (cwV 2 C0.2.2.2.2.1 gL_law_X5_both rfl rfl rfl ⟨rfl, hd_X5_both⟩ ⟨(Nat.le_of_ble_eq_true rfl), (Nat.le_of_ble_eq_true rfl)⟩) rfl hl.1 rfl (Nat.le_of_ble_eq_true rfl) hf dL_law_674 (fun H locs hW => ?_)
  refine W.eq (g2 := F0 m 677 ls [.int (s_X5_both u (xs (nI i + 1).toNatClampNeg) (xs (nI i + 2).toNatClampNeg)).1]) rfl ?_
  refine lv_aload_n C0.1 C0.2.1 dL_law_677 rfl (lv_at hl 3 rfl) ?_
  refine lw_arg (k := 1) (x := 1) C0 hW hi hl dL_law_678 dL_law_679 dL_law_680 dL_law_681 dL_law_682 rfl (by decide) (by decide) ?_
  refine lw_arg (k := 2) (x := 2) C0 hW hi hl dL_law_683 dL_law_684 dL_law_685 dL_law_686 dL_law_687 rfl (by decide) (by decide) ?_
  refine lw_c6 C0 hW (c_X6_both l E g v (xs (nI i + 1).toNatClampNeg) (xs (nI i + 2).toNatClampNeg) hz.zW C0.2.2.2.2.2.2.2.1) (cwV 2 C0.2.2.2.2.1 gL_law_X6_both rfl rfl rfl ⟨rfl, hd_X6_both⟩ ⟨(Nat.le_of_ble_eq_true rfl), (Nat.le_of_ble_eq_true rfl)⟩) rfl hl.1 rfl (Nat.le_of_ble_eq_true rfl) hf dL_law_688 (fun H locs hW => ?_)
  refine W.eq (g2 := F0 m 691 ls [.int (s_X6_both v (xs (nI i + 1).toNatClampNeg) (xs (nI i + 2).toNatClampNeg)).1, .int (s_X5_both u (xs (nI i + 1).toNatClampNeg) (xs (nI i + 2).toNatClampNeg)).1]) rfl ?_
  obtain ⟨e1, n2, e2⟩ := e_both hz (xs (nI i + 1).toNatClampNeg) (xs (nI i + 2).toNatClampNeg)
  exact lv_icmp_eq (tgt := 1342) C0.1 C0.2.1 dL_law_691 rfl (fun _ => kk _ _ _ _ _ e2 hW) (fun q => absurd e1 q)
set_option maxHeartbeats 4000000 in
set_option maxRecDepth 100000 in
theorem lw_case_18 (C0 : lw_C p s m c b L xs E a g) (hz : zR u v n) (hW : lw_W E s a g u v H locs) (hi : i + 6 < L) (hl : lv_has ls 4 [(3, .int (nI i)), (0, .ref b), (1, .ref (a 0)), (2, .ref (g 0))]) (hf : cells + 0 ≤ room_1.cells ∧ slots + 0 ≤ room_1.slots) (kk : ∀ (u' v' : xU) (n' : Nat) (H1 : Heap) (locs1 : List Loc), zR u' v' n' → lw_W E s a g u' v' H1 locs1 → W p l e room_1 s m #[Value.ref b] below meth c H1 locs1 cells slots Q (F0 m 1342 ls [])) : W p l e room_1 s m #[Value.ref b] below meth c H locs cells slots Q (F0 m 696 ls []) := by
  refine lv_aload_n C0.1 C0.2.1 dL_law_696 rfl (lv_at hl 2 rfl) ?_
  refine lw_arg (k := 1) (x := 1) C0 hW hi hl dL_law_697 dL_law_698 dL_law_699 dL_law_700 dL_law_701 rfl (by decide) (by decide) ?_
  refine lw_c5r C0 hW (c_X5_alike l E a u (xs (nI i + 1).toNatClampNeg)) (cwV 1 C0.2.2.2.2.1 gL_law_X5_alike rfl rfl rfl ⟨rfl, hd_X5_alike⟩ ⟨(Nat.le_of_ble_eq_true rfl), (Nat.le_of_ble_eq_true rfl)⟩) rfl hl.1 rfl (Nat.le_of_ble_eq_true rfl) hf dL_law_702 ?_
  refine W.eq (g2 := F0 m 705 ls [.int (s_X5_alike u (xs (nI i + 1).toNatClampNeg))]) rfl ?_
  refine lv_aload_n C0.1 C0.2.1 dL_law_705 rfl (lv_at hl 3 rfl) ?_
  refine lw_arg (k := 1) (x := 1) C0 hW hi hl dL_law_706 dL_law_707 dL_law_708 dL_law_709 dL_law_710 rfl (by decide) (by decide) ?_
  refine lw_c6r C0 hW (c_X6_alike l E g v (xs (nI i + 1).toNatClampNeg) hz.zW) (cwV 1 C0.2.2.2.2.1 gL_law_X6_alike rfl rfl rfl ⟨rfl, hd_X6_alike⟩ ⟨(Nat.le_of_ble_eq_true rfl), (Nat.le_of_ble_eq_true rfl)⟩) rfl hl.1 rfl (Nat.le_of_ble_eq_true rfl) hf dL_law_711 ?_
  refine W.eq (g2 := F0 m 714 ls [.int (s_X6_alike v (xs (nI i + 1).toNatClampNeg)), .int (s_X5_alike u (xs (nI i + 1).toNatClampNeg))]) rfl ?_
  have e1 := e_alike hz (xs (nI i + 1).toNatClampNeg)
  exact lv_icmp_eq (tgt := 1342) C0.1 C0.2.1 dL_law_714 rfl (fun _ => kk _ _ _ _ _ hz hW) (fun q => absurd e1 q)
set_option maxHeartbeats 4000000 in
set_option maxRecDepth 100000 in
theorem lw_case_19 (C0 : lw_C p s m c b L xs E a g) (hz : zR u v n) (hW : lw_W E s a g u v H locs) (hi : i + 6 < L) (hl : lv_has ls 4 [(3, .int (nI i)), (0, .ref b), (1, .ref (a 0)), (2, .ref (g 0))]) (hf : cells + 0 ≤ room_1.cells ∧ slots + 0 ≤ room_1.slots) (kk : ∀ (u' v' : xU) (n' : Nat) (H1 : Heap) (locs1 : List Loc), zR u' v' n' → lw_W E s a g u' v' H1 locs1 → W p l e room_1 s m #[Value.ref b] below meth c H1 locs1 cells slots Q (F0 m 1342 ls [])) : W p l e room_1 s m #[Value.ref b] below meth c H locs cells slots Q (F0 m 719 ls []) := by
  refine lv_aload_n C0.1 C0.2.1 dL_law_719 rfl (lv_at hl 2 rfl) ?_
  refine lw_arg (k := 1) (x := 1) C0 hW hi hl dL_law_720 dL_law_721 dL_law_722 dL_law_723 dL_law_724 rfl (by decide) (by decide) ?_
  refine lw_arg (k := 2) (x := 2) C0 hW hi hl dL_law_725 dL_law_726 dL_law_727 dL_law_728 dL_law_729 rfl (by decide) (by decide) ?_
  refine lw_c5 C0 hW (c_X5_slew l E a u (xs (nI i + 1).toNatClampNeg) (xs (nI i + 2).toNatClampNeg) hz.zS C0.2.2.2.2.2.2.1) (cwV 2 C0.2.2.2.2.1 gL_law_X5_slew rfl rfl rfl ⟨rfl, hd_X5_slew⟩ ⟨(Nat.le_of_ble_eq_true rfl), (Nat.le_of_ble_eq_true rfl)⟩) rfl hl.1 rfl (Nat.le_of_ble_eq_true rfl) hf dL_law_730 (fun H locs hW => ?_)
  refine W.eq (g2 := F0 m 733 ls [.long (s_X5_slew u (xs (nI i + 1).toNatClampNeg) (xs (nI i + 2).toNatClampNeg)).1]) rfl ?_
  refine lv_aload_n C0.1 C0.2.1 dL_law_733 rfl (lv_at hl 3 rfl) ?_
  refine lw_arg (k := 1) (x := 1) C0 hW hi hl dL_law_734 dL_law_735 dL_law_736 dL_law_737 dL_law_738 rfl (by decide) (by decide) ?_
  refine lw_arg (k := 2) (x := 2) C0 hW hi hl dL_law_739 dL_law_740 dL_law_741 dL_law_742 dL_law_743 rfl (by decide) (by decide) ?_
  refine lw_c6 C0 hW (c_X6_slew l E g v (xs (nI i + 1).toNatClampNeg) (xs (nI i + 2).toNatClampNeg) hz.zW hz.zZ C0.2.2.2.2.2.2.2.1) (cwV 2 C0.2.2.2.2.1 gL_law_X6_slew rfl rfl rfl ⟨rfl, hd_X6_slew⟩ ⟨(Nat.le_of_ble_eq_true rfl), (Nat.le_of_ble_eq_true rfl)⟩) rfl hl.1 rfl (Nat.le_of_ble_eq_true rfl) hf dL_law_744 (fun H locs hW => ?_)
  refine W.eq (g2 := F0 m 747 ls [.long (s_X6_slew v (xs (nI i + 1).toNatClampNeg) (xs (nI i + 2).toNatClampNeg)).1, .long (s_X5_slew u (xs (nI i + 1).toNatClampNeg) (xs (nI i + 2).toNatClampNeg)).1]) rfl ?_
  obtain ⟨e1, n2, e2⟩ := e_slew hz (xs (nI i + 1).toNatClampNeg) (xs (nI i + 2).toNatClampNeg)
  refine W.lcmp C0.1 C0.2.1 dL_law_747 ?_
  exact lv_if_eq (tgt := 1342) C0.1 C0.2.1 dL_law_748 rfl (fun _ => kk _ _ _ _ _ e2 hW) (fun q => absurd ((lg_cmp_eq _ _).mpr e1) q)
set_option maxHeartbeats 4000000 in
set_option maxRecDepth 100000 in
theorem lw_case_20 (C0 : lw_C p s m c b L xs E a g) (hz : zR u v n) (hW : lw_W E s a g u v H locs) (hi : i + 6 < L) (hl : lv_has ls 4 [(3, .int (nI i)), (0, .ref b), (1, .ref (a 0)), (2, .ref (g 0))]) (hf : cells + 0 ≤ room_1.cells ∧ slots + 0 ≤ room_1.slots) (kk : ∀ (u' v' : xU) (n' : Nat) (H1 : Heap) (locs1 : List Loc), zR u' v' n' → lw_W E s a g u' v' H1 locs1 → W p l e room_1 s m #[Value.ref b] below meth c H1 locs1 cells slots Q (F0 m 1342 ls [])) : W p l e room_1 s m #[Value.ref b] below meth c H locs cells slots Q (F0 m 753 ls []) := by
  refine lv_aload_n C0.1 C0.2.1 dL_law_753 rfl (lv_at hl 2 rfl) ?_
  refine lw_arg (k := 1) (x := 1) C0 hW hi hl dL_law_754 dL_law_755 dL_law_756 dL_law_757 dL_law_758 rfl (by decide) (by decide) ?_
  refine lw_arg (k := 2) (x := 2) C0 hW hi hl dL_law_759 dL_law_760 dL_law_761 dL_law_762 dL_law_763 rfl (by decide) (by decide) ?_
  refine lw_c5 C0 hW (c_X5_slews l E a u (xs (nI i + 1).toNatClampNeg) (xs (nI i + 2).toNatClampNeg) hz.zS C0.2.2.2.2.2.2.1) (cwV 2 C0.2.2.2.2.1 gL_law_X5_slews rfl rfl rfl ⟨rfl, hd_X5_slews⟩ ⟨(Nat.le_of_ble_eq_true rfl), (Nat.le_of_ble_eq_true rfl)⟩) rfl hl.1 rfl (Nat.le_of_ble_eq_true rfl) hf dL_law_764 (fun H locs hW => ?_)
  refine W.eq (g2 := F0 m 767 ls [.long (s_X5_slews u (xs (nI i + 1).toNatClampNeg) (xs (nI i + 2).toNatClampNeg)).1]) rfl ?_
  refine lv_aload_n C0.1 C0.2.1 dL_law_767 rfl (lv_at hl 3 rfl) ?_
  refine lw_arg (k := 1) (x := 1) C0 hW hi hl dL_law_768 dL_law_769 dL_law_770 dL_law_771 dL_law_772 rfl (by decide) (by decide) ?_
  refine lw_arg (k := 2) (x := 2) C0 hW hi hl dL_law_773 dL_law_774 dL_law_775 dL_law_776 dL_law_777 rfl (by decide) (by decide) ?_
  refine lw_c6 C0 hW (c_X6_slews_ l E g v (xs (nI i + 1).toNatClampNeg) (xs (nI i + 2).toNatClampNeg) hz.zW hz.zZ C0.2.2.2.2.2.2.2.1) (cwV 2 C0.2.2.2.2.1 gL_law_X6_slews_ rfl rfl rfl ⟨rfl, hd_X6_slews_⟩ ⟨(Nat.le_of_ble_eq_true rfl), (Nat.le_of_ble_eq_true rfl)⟩) rfl hl.1 rfl (Nat.le_of_ble_eq_true rfl) hf dL_law_778 (fun H locs hW => ?_)
  refine W.eq (g2 := F0 m 781 ls [.long (s_X6_slews_ v (xs (nI i + 1).toNatClampNeg) (xs (nI i + 2).toNatClampNeg)).1, .long (s_X5_slews u (xs (nI i + 1).toNatClampNeg) (xs (nI i + 2).toNatClampNeg)).1]) rfl ?_
  obtain ⟨e1, n2, e2⟩ := e_slews hz (xs (nI i + 1).toNatClampNeg) (xs (nI i + 2).toNatClampNeg)
  refine W.lcmp C0.1 C0.2.1 dL_law_781 ?_
  exact lv_if_eq (tgt := 1342) C0.1 C0.2.1 dL_law_782 rfl (fun _ => kk _ _ _ _ _ e2 hW) (fun q => absurd ((lg_cmp_eq _ _).mpr e1) q)
set_option maxHeartbeats 4000000 in
set_option maxRecDepth 100000 in
theorem lw_case_21 (C0 : lw_C p s m c b L xs E a g) (hz : zR u v n) (hW : lw_W E s a g u v H locs) (hi : i + 6 < L) (hl : lv_has ls 4 [(3, .int (nI i)), (0, .ref b), (1, .ref (a 0)), (2, .ref (g 0))]) (hf : cells + 0 ≤ room_1.cells ∧ slots + 0 ≤ room_1.slots) (kk : ∀ (u' v' : xU) (n' : Nat) (H1 : Heap) (locs1 : List Loc), zR u' v' n' → lw_W E s a g u' v' H1 locs1 → W p l e room_1 s m #[Value.ref b] below meth c H1 locs1 cells slots Q (F0 m 1342 ls [])) : W p l e room_1 s m #[Value.ref b] below meth c H locs cells slots Q (F0 m 787 ls []) := by
  refine lv_aload_n C0.1 C0.2.1 dL_law_787 rfl (lv_at hl 2 rfl) ?_
  refine lw_arg (k := 1) (x := 1) C0 hW hi hl dL_law_788 dL_law_789 dL_law_790 dL_law_791 dL_law_792 rfl (by decide) (by decide) ?_
  refine lw_arg (k := 2) (x := 2) C0 hW hi hl dL_law_793 dL_law_794 dL_law_795 dL_law_796 dL_law_797 rfl (by decide) (by decide) ?_
  refine lw_c5 C0 hW (c_X5_by l E a u (xs (nI i + 1).toNatClampNeg) (xs (nI i + 2).toNatClampNeg) hz.xv hz.zS C0.2.2.2.2.2.2.1) (cwV 2 C0.2.2.2.2.1 gL_law_X5_by rfl rfl rfl ⟨rfl, hd_X5_by⟩ ⟨(Nat.le_of_ble_eq_true rfl), (Nat.le_of_ble_eq_true rfl)⟩) rfl hl.1 rfl (Nat.le_of_ble_eq_true rfl) hf dL_law_798 (fun H locs hW => ?_)
  refine W.eq (g2 := F0 m 801 ls [.int (s_X5_by u (xs (nI i + 1).toNatClampNeg) (xs (nI i + 2).toNatClampNeg)).1]) rfl ?_
  refine lv_aload_n C0.1 C0.2.1 dL_law_801 rfl (lv_at hl 3 rfl) ?_
  refine lw_arg (k := 1) (x := 1) C0 hW hi hl dL_law_802 dL_law_803 dL_law_804 dL_law_805 dL_law_806 rfl (by decide) (by decide) ?_
  refine lw_arg (k := 2) (x := 2) C0 hW hi hl dL_law_807 dL_law_808 dL_law_809 dL_law_810 dL_law_811 rfl (by decide) (by decide) ?_
  refine lw_c6 C0 hW (c_X6_by l E g v (xs (nI i + 1).toNatClampNeg) (xs (nI i + 2).toNatClampNeg) hz.zW hz.zZ C0.2.2.2.2.2.2.2.1) (cwV 2 C0.2.2.2.2.1 gL_law_X6_by rfl rfl rfl ⟨rfl, hd_X6_by⟩ ⟨(Nat.le_of_ble_eq_true rfl), (Nat.le_of_ble_eq_true rfl)⟩) rfl hl.1 rfl (Nat.le_of_ble_eq_true rfl) hf dL_law_812 (fun H locs hW => ?_)
  refine W.eq (g2 := F0 m 815 ls [.int (s_X6_by v (xs (nI i + 1).toNatClampNeg) (xs (nI i + 2).toNatClampNeg)).1, .int (s_X5_by u (xs (nI i + 1).toNatClampNeg) (xs (nI i + 2).toNatClampNeg)).1]) rfl ?_
  obtain ⟨e1, n2, e2⟩ := e_by hz (xs (nI i + 1).toNatClampNeg) (xs (nI i + 2).toNatClampNeg)
  exact lv_icmp_eq (tgt := 1342) C0.1 C0.2.1 dL_law_815 rfl (fun _ => kk _ _ _ _ _ e2 hW) (fun q => absurd e1 q)
set_option maxHeartbeats 4000000 in
set_option maxRecDepth 100000 in
theorem lw_case_22 (C0 : lw_C p s m c b L xs E a g) (hz : zR u v n) (hW : lw_W E s a g u v H locs) (hi : i + 6 < L) (hl : lv_has ls 4 [(3, .int (nI i)), (0, .ref b), (1, .ref (a 0)), (2, .ref (g 0))]) (hf : cells + 0 ≤ room_1.cells ∧ slots + 0 ≤ room_1.slots) (kk : ∀ (u' v' : xU) (n' : Nat) (H1 : Heap) (locs1 : List Loc), zR u' v' n' → lw_W E s a g u' v' H1 locs1 → W p l e room_1 s m #[Value.ref b] below meth c H1 locs1 cells slots Q (F0 m 1342 ls [])) : W p l e room_1 s m #[Value.ref b] below meth c H locs cells slots Q (F0 m 820 ls []) := by
  refine lv_aload_n C0.1 C0.2.1 dL_law_820 rfl (lv_at hl 2 rfl) ?_
  refine lw_arg (k := 1) (x := 1) C0 hW hi hl dL_law_821 dL_law_822 dL_law_823 dL_law_824 dL_law_825 rfl (by decide) (by decide) ?_
  refine lw_arg (k := 2) (x := 2) C0 hW hi hl dL_law_826 dL_law_827 dL_law_828 dL_law_829 dL_law_830 rfl (by decide) (by decide) ?_
  refine lw_c5 C0 hW (c_X5_errors l E a u (xs (nI i + 1).toNatClampNeg) (xs (nI i + 2).toNatClampNeg) hz.zS C0.2.2.2.2.2.2.1) (cwV 2 C0.2.2.2.2.1 gL_law_X5_errors rfl rfl rfl ⟨rfl, hd_X5_errors⟩ ⟨(Nat.le_of_ble_eq_true rfl), (Nat.le_of_ble_eq_true rfl)⟩) rfl hl.1 rfl (Nat.le_of_ble_eq_true rfl) hf dL_law_831 (fun H locs hW => ?_)
  refine W.eq (g2 := F0 m 834 ls [.long (s_X5_errors u (xs (nI i + 1).toNatClampNeg) (xs (nI i + 2).toNatClampNeg)).1]) rfl ?_
  refine lv_aload_n C0.1 C0.2.1 dL_law_834 rfl (lv_at hl 3 rfl) ?_
  refine lw_arg (k := 1) (x := 1) C0 hW hi hl dL_law_835 dL_law_836 dL_law_837 dL_law_838 dL_law_839 rfl (by decide) (by decide) ?_
  refine lw_arg (k := 2) (x := 2) C0 hW hi hl dL_law_840 dL_law_841 dL_law_842 dL_law_843 dL_law_844 rfl (by decide) (by decide) ?_
  refine lw_c6 C0 hW (c_X6_errors l E g v (xs (nI i + 1).toNatClampNeg) (xs (nI i + 2).toNatClampNeg) hz.zW C0.2.2.2.2.2.2.2.1) (cwV 2 C0.2.2.2.2.1 gL_law_X6_errors rfl rfl rfl ⟨rfl, hd_X6_errors⟩ ⟨(Nat.le_of_ble_eq_true rfl), (Nat.le_of_ble_eq_true rfl)⟩) rfl hl.1 rfl (Nat.le_of_ble_eq_true rfl) hf dL_law_845 (fun H locs hW => ?_)
  refine W.eq (g2 := F0 m 848 ls [.long (s_X6_errors v (xs (nI i + 1).toNatClampNeg) (xs (nI i + 2).toNatClampNeg)).1, .long (s_X5_errors u (xs (nI i + 1).toNatClampNeg) (xs (nI i + 2).toNatClampNeg)).1]) rfl ?_
  obtain ⟨e1, n2, e2⟩ := e_errors hz (xs (nI i + 1).toNatClampNeg) (xs (nI i + 2).toNatClampNeg)
  refine W.lcmp C0.1 C0.2.1 dL_law_848 ?_
  exact lv_if_eq (tgt := 1342) C0.1 C0.2.1 dL_law_849 rfl (fun _ => kk _ _ _ _ _ e2 hW) (fun q => absurd ((lg_cmp_eq _ _).mpr e1) q)
set_option maxHeartbeats 4000000 in
set_option maxRecDepth 100000 in
theorem lw_case_23 (C0 : lw_C p s m c b L xs E a g) (hz : zR u v n) (hW : lw_W E s a g u v H locs) (hi : i + 6 < L) (hl : lv_has ls 4 [(3, .int (nI i)), (0, .ref b), (1, .ref (a 0)), (2, .ref (g 0))]) (hf : cells + 0 ≤ room_1.cells ∧ slots + 0 ≤ room_1.slots) (kk : ∀ (u' v' : xU) (n' : Nat) (H1 : Heap) (locs1 : List Loc), zR u' v' n' → lw_W E s a g u' v' H1 locs1 → W p l e room_1 s m #[Value.ref b] below meth c H1 locs1 cells slots Q (F0 m 1342 ls [])) : W p l e room_1 s m #[Value.ref b] below meth c H locs cells slots Q (F0 m 854 ls []) := by
  refine lv_aload_n C0.1 C0.2.1 dL_law_854 rfl (lv_at hl 2 rfl) ?_
  refine lw_arg (k := 1) (x := 1) C0 hW hi hl dL_law_855 dL_law_856 dL_law_857 dL_law_858 dL_law_859 rfl (by decide) (by decide) ?_
  refine lw_arg (k := 2) (x := 2) C0 hW hi hl dL_law_860 dL_law_861 dL_law_862 dL_law_863 dL_law_864 rfl (by decide) (by decide) ?_
  refine lw_arg (k := 3) (x := 3) C0 hW hi hl dL_law_865 dL_law_866 dL_law_867 dL_law_868 dL_law_869 rfl (by decide) (by decide) ?_
  refine lw_arg (k := 4) (x := 4) C0 hW hi hl dL_law_870 dL_law_871 dL_law_872 dL_law_873 dL_law_874 rfl (by decide) (by decide) ?_
  refine lw_arg (k := 5) (x := 5) C0 hW hi hl dL_law_875 dL_law_876 dL_law_877 dL_law_878 dL_law_879 rfl (by decide) (by decide) ?_
  refine lw_c5 C0 hW (c_X5_chance l E a u (xs (nI i + 1).toNatClampNeg) (xs (nI i + 2).toNatClampNeg) (xs (nI i + 3).toNatClampNeg) (xs (nI i + 4).toNatClampNeg) (xs (nI i + 5).toNatClampNeg) hz.zS C0.2.2.2.2.2.2.1) (cwV 5 C0.2.2.2.2.1 gL_law_X5_chance rfl rfl rfl ⟨rfl, hd_X5_chance⟩ ⟨(Nat.le_of_ble_eq_true rfl), (Nat.le_of_ble_eq_true rfl)⟩) rfl hl.1 rfl (Nat.le_of_ble_eq_true rfl) hf dL_law_880 (fun H locs hW => ?_)
  refine W.eq (g2 := F0 m 883 ls [.int (s_X5_chance u (xs (nI i + 1).toNatClampNeg) (xs (nI i + 2).toNatClampNeg) (xs (nI i + 3).toNatClampNeg) (xs (nI i + 4).toNatClampNeg) (xs (nI i + 5).toNatClampNeg)).1]) rfl ?_
  refine lv_aload_n C0.1 C0.2.1 dL_law_883 rfl (lv_at hl 3 rfl) ?_
  refine lw_arg (k := 1) (x := 1) C0 hW hi hl dL_law_884 dL_law_885 dL_law_886 dL_law_887 dL_law_888 rfl (by decide) (by decide) ?_
  refine lw_arg (k := 2) (x := 2) C0 hW hi hl dL_law_889 dL_law_890 dL_law_891 dL_law_892 dL_law_893 rfl (by decide) (by decide) ?_
  refine lw_arg (k := 3) (x := 3) C0 hW hi hl dL_law_894 dL_law_895 dL_law_896 dL_law_897 dL_law_898 rfl (by decide) (by decide) ?_
  refine lw_arg (k := 4) (x := 4) C0 hW hi hl dL_law_899 dL_law_900 dL_law_901 dL_law_902 dL_law_903 rfl (by decide) (by decide) ?_
  refine lw_arg (k := 5) (x := 5) C0 hW hi hl dL_law_904 dL_law_905 dL_law_906 dL_law_907 dL_law_908 rfl (by decide) (by decide) ?_
  refine lw_c6 C0 hW (c_X6_chance l E g v (xs (nI i + 1).toNatClampNeg) (xs (nI i + 2).toNatClampNeg) (xs (nI i + 3).toNatClampNeg) (xs (nI i + 4).toNatClampNeg) (xs (nI i + 5).toNatClampNeg) hz.zW C0.2.2.2.2.2.2.2.1) (cwV 5 C0.2.2.2.2.1 gL_law_X6_chance rfl rfl rfl ⟨rfl, hd_X6_chance⟩ ⟨(Nat.le_of_ble_eq_true rfl), (Nat.le_of_ble_eq_true rfl)⟩) rfl hl.1 rfl (Nat.le_of_ble_eq_true rfl) hf dL_law_909 (fun H locs hW => ?_)
  refine W.eq (g2 := F0 m 912 ls [.int (s_X6_chance v (xs (nI i + 1).toNatClampNeg) (xs (nI i + 2).toNatClampNeg) (xs (nI i + 3).toNatClampNeg) (xs (nI i + 4).toNatClampNeg) (xs (nI i + 5).toNatClampNeg)).1, .int (s_X5_chance u (xs (nI i + 1).toNatClampNeg) (xs (nI i + 2).toNatClampNeg) (xs (nI i + 3).toNatClampNeg) (xs (nI i + 4).toNatClampNeg) (xs (nI i + 5).toNatClampNeg)).1]) rfl ?_
  obtain ⟨e1, n2, e2⟩ := e_chance hz (xs (nI i + 1).toNatClampNeg) (xs (nI i + 2).toNatClampNeg) (xs (nI i + 3).toNatClampNeg) (xs (nI i + 4).toNatClampNeg) (xs (nI i + 5).toNatClampNeg)
  exact lv_icmp_eq (tgt := 1342) C0.1 C0.2.1 dL_law_912 rfl (fun _ => kk _ _ _ _ _ e2 hW) (fun q => absurd e1 q)
set_option maxHeartbeats 4000000 in
set_option maxRecDepth 100000 in
theorem lw_case_24 (C0 : lw_C p s m c b L xs E a g) (hz : zR u v n) (hW : lw_W E s a g u v H locs) (hi : i + 6 < L) (hl : lv_has ls 4 [(3, .int (nI i)), (0, .ref b), (1, .ref (a 0)), (2, .ref (g 0))]) (hf : cells + 0 ≤ room_1.cells ∧ slots + 0 ≤ room_1.slots) (kk : ∀ (u' v' : xU) (n' : Nat) (H1 : Heap) (locs1 : List Loc), zR u' v' n' → lw_W E s a g u' v' H1 locs1 → W p l e room_1 s m #[Value.ref b] below meth c H1 locs1 cells slots Q (F0 m 1342 ls [])) : W p l e room_1 s m #[Value.ref b] below meth c H locs cells slots Q (F0 m 917 ls []) := by
  refine lv_aload_n C0.1 C0.2.1 dL_law_917 rfl (lv_at hl 2 rfl) ?_
  refine lw_arg (k := 1) (x := 1) C0 hW hi hl dL_law_918 dL_law_919 dL_law_920 dL_law_921 dL_law_922 rfl (by decide) (by decide) ?_
  refine lw_arg (k := 2) (x := 2) C0 hW hi hl dL_law_923 dL_law_924 dL_law_925 dL_law_926 dL_law_927 rfl (by decide) (by decide) ?_
  refine lw_arg (k := 3) (x := 3) C0 hW hi hl dL_law_928 dL_law_929 dL_law_930 dL_law_931 dL_law_932 rfl (by decide) (by decide) ?_
  refine lw_c5 C0 hW (c_X5_tells l E a u (xs (nI i + 1).toNatClampNeg) (xs (nI i + 2).toNatClampNeg) (xs (nI i + 3).toNatClampNeg) hz.xv C0.2.2.2.2.2.2.1) (cwV 3 C0.2.2.2.2.1 gL_law_X5_tells rfl rfl rfl ⟨rfl, hd_X5_tells⟩ ⟨(Nat.le_of_ble_eq_true rfl), (Nat.le_of_ble_eq_true rfl)⟩) rfl hl.1 rfl (Nat.le_of_ble_eq_true rfl) hf dL_law_933 (fun H locs hW => ?_)
  refine W.eq (g2 := F0 m 936 ls [.int (s_X5_tells u (xs (nI i + 1).toNatClampNeg) (xs (nI i + 2).toNatClampNeg) (xs (nI i + 3).toNatClampNeg)).1]) rfl ?_
  refine lv_aload_n C0.1 C0.2.1 dL_law_936 rfl (lv_at hl 3 rfl) ?_
  refine lw_arg (k := 1) (x := 1) C0 hW hi hl dL_law_937 dL_law_938 dL_law_939 dL_law_940 dL_law_941 rfl (by decide) (by decide) ?_
  refine lw_arg (k := 2) (x := 2) C0 hW hi hl dL_law_942 dL_law_943 dL_law_944 dL_law_945 dL_law_946 rfl (by decide) (by decide) ?_
  refine lw_arg (k := 3) (x := 3) C0 hW hi hl dL_law_947 dL_law_948 dL_law_949 dL_law_950 dL_law_951 rfl (by decide) (by decide) ?_
  refine lw_c6 C0 hW (c_X6_tells l E g v (xs (nI i + 1).toNatClampNeg) (xs (nI i + 2).toNatClampNeg) (xs (nI i + 3).toNatClampNeg) hz.zW hz.zZ C0.2.2.2.2.2.2.2.1) (cwV 3 C0.2.2.2.2.1 gL_law_X6_tells rfl rfl rfl ⟨rfl, hd_X6_tells⟩ ⟨(Nat.le_of_ble_eq_true rfl), (Nat.le_of_ble_eq_true rfl)⟩) rfl hl.1 rfl (Nat.le_of_ble_eq_true rfl) hf dL_law_952 (fun H locs hW => ?_)
  refine W.eq (g2 := F0 m 955 ls [.int (s_X6_tells v (xs (nI i + 1).toNatClampNeg) (xs (nI i + 2).toNatClampNeg) (xs (nI i + 3).toNatClampNeg)).1, .int (s_X5_tells u (xs (nI i + 1).toNatClampNeg) (xs (nI i + 2).toNatClampNeg) (xs (nI i + 3).toNatClampNeg)).1]) rfl ?_
  obtain ⟨e1, n2, e2⟩ := e_tells hz (xs (nI i + 1).toNatClampNeg) (xs (nI i + 2).toNatClampNeg) (xs (nI i + 3).toNatClampNeg)
  exact lv_icmp_eq (tgt := 1342) C0.1 C0.2.1 dL_law_955 rfl (fun _ => kk _ _ _ _ _ e2 hW) (fun q => absurd e1 q)
set_option maxHeartbeats 4000000 in
set_option maxRecDepth 100000 in
theorem lw_case_25 (C0 : lw_C p s m c b L xs E a g) (hz : zR u v n) (hW : lw_W E s a g u v H locs) (hi : i + 6 < L) (hl : lv_has ls 4 [(3, .int (nI i)), (0, .ref b), (1, .ref (a 0)), (2, .ref (g 0))]) (hf : cells + 0 ≤ room_1.cells ∧ slots + 0 ≤ room_1.slots) (kk : ∀ (u' v' : xU) (n' : Nat) (H1 : Heap) (locs1 : List Loc), zR u' v' n' → lw_W E s a g u' v' H1 locs1 → W p l e room_1 s m #[Value.ref b] below meth c H1 locs1 cells slots Q (F0 m 1342 ls [])) : W p l e room_1 s m #[Value.ref b] below meth c H locs cells slots Q (F0 m 960 ls []) := by
  refine lv_aload_n C0.1 C0.2.1 dL_law_960 rfl (lv_at hl 2 rfl) ?_
  refine lw_arg (k := 1) (x := 1) C0 hW hi hl dL_law_961 dL_law_962 dL_law_963 dL_law_964 dL_law_965 rfl (by decide) (by decide) ?_
  refine lw_arg (k := 2) (x := 2) C0 hW hi hl dL_law_966 dL_law_967 dL_law_968 dL_law_969 dL_law_970 rfl (by decide) (by decide) ?_
  refine lw_arg (k := 3) (x := 3) C0 hW hi hl dL_law_971 dL_law_972 dL_law_973 dL_law_974 dL_law_975 rfl (by decide) (by decide) ?_
  refine lw_c5 C0 hW (c_X5_film l E a u (xs (nI i + 1).toNatClampNeg) (xs (nI i + 2).toNatClampNeg) (xs (nI i + 3).toNatClampNeg) C0.2.2.2.2.2.2.1) (cwV 3 C0.2.2.2.2.1 gL_law_X5_film rfl rfl rfl ⟨rfl, hd_X5_film⟩ ⟨(Nat.le_of_ble_eq_true rfl), (Nat.le_of_ble_eq_true rfl)⟩) rfl hl.1 rfl (Nat.le_of_ble_eq_true rfl) hf dL_law_976 (fun H locs hW => ?_)
  refine W.eq (g2 := F0 m 979 ls [.int (s_X5_film u (xs (nI i + 1).toNatClampNeg) (xs (nI i + 2).toNatClampNeg) (xs (nI i + 3).toNatClampNeg)).1]) rfl ?_
  refine lv_aload_n C0.1 C0.2.1 dL_law_979 rfl (lv_at hl 3 rfl) ?_
  refine lw_arg (k := 1) (x := 1) C0 hW hi hl dL_law_980 dL_law_981 dL_law_982 dL_law_983 dL_law_984 rfl (by decide) (by decide) ?_
  refine lw_arg (k := 2) (x := 2) C0 hW hi hl dL_law_985 dL_law_986 dL_law_987 dL_law_988 dL_law_989 rfl (by decide) (by decide) ?_
  refine lw_arg (k := 3) (x := 3) C0 hW hi hl dL_law_990 dL_law_991 dL_law_992 dL_law_993 dL_law_994 rfl (by decide) (by decide) ?_
  refine lw_c6 C0 hW (c_X6_film l E g v (xs (nI i + 1).toNatClampNeg) (xs (nI i + 2).toNatClampNeg) (xs (nI i + 3).toNatClampNeg) hz.zW C0.2.2.2.2.2.2.2.1) (cwV 3 C0.2.2.2.2.1 gL_law_X6_film rfl rfl rfl ⟨rfl, hd_X6_film⟩ ⟨(Nat.le_of_ble_eq_true rfl), (Nat.le_of_ble_eq_true rfl)⟩) rfl hl.1 rfl (Nat.le_of_ble_eq_true rfl) hf dL_law_995 (fun H locs hW => ?_)
  refine W.eq (g2 := F0 m 998 ls [.int (s_X6_film v (xs (nI i + 1).toNatClampNeg) (xs (nI i + 2).toNatClampNeg) (xs (nI i + 3).toNatClampNeg)).1, .int (s_X5_film u (xs (nI i + 1).toNatClampNeg) (xs (nI i + 2).toNatClampNeg) (xs (nI i + 3).toNatClampNeg)).1]) rfl ?_
  obtain ⟨e1, n2, e2⟩ := e_film hz (xs (nI i + 1).toNatClampNeg) (xs (nI i + 2).toNatClampNeg) (xs (nI i + 3).toNatClampNeg)
  exact lv_icmp_eq (tgt := 1342) C0.1 C0.2.1 dL_law_998 rfl (fun _ => kk _ _ _ _ _ e2 hW) (fun q => absurd e1 q)
set_option maxHeartbeats 4000000 in
set_option maxRecDepth 100000 in
theorem lw_case_26 (C0 : lw_C p s m c b L xs E a g) (hz : zR u v n) (hW : lw_W E s a g u v H locs) (hi : i + 6 < L) (hl : lv_has ls 4 [(3, .int (nI i)), (0, .ref b), (1, .ref (a 0)), (2, .ref (g 0))]) (hf : cells + 0 ≤ room_1.cells ∧ slots + 0 ≤ room_1.slots) (kk : ∀ (u' v' : xU) (n' : Nat) (H1 : Heap) (locs1 : List Loc), zR u' v' n' → lw_W E s a g u' v' H1 locs1 → W p l e room_1 s m #[Value.ref b] below meth c H1 locs1 cells slots Q (F0 m 1342 ls [])) : W p l e room_1 s m #[Value.ref b] below meth c H locs cells slots Q (F0 m 1003 ls []) := by
  refine lv_aload_n C0.1 C0.2.1 dL_law_1003 rfl (lv_at hl 2 rfl) ?_
  refine lw_arg (k := 1) (x := 1) C0 hW hi hl dL_law_1004 dL_law_1005 dL_law_1006 dL_law_1007 dL_law_1008 rfl (by decide) (by decide) ?_
  refine lw_arg (k := 2) (x := 2) C0 hW hi hl dL_law_1009 dL_law_1010 dL_law_1011 dL_law_1012 dL_law_1013 rfl (by decide) (by decide) ?_
  refine lw_arg (k := 3) (x := 3) C0 hW hi hl dL_law_1014 dL_law_1015 dL_law_1016 dL_law_1017 dL_law_1018 rfl (by decide) (by decide) ?_
  refine lw_arg (k := 4) (x := 4) C0 hW hi hl dL_law_1019 dL_law_1020 dL_law_1021 dL_law_1022 dL_law_1023 rfl (by decide) (by decide) ?_
  refine lw_arg (k := 5) (x := 5) C0 hW hi hl dL_law_1024 dL_law_1025 dL_law_1026 dL_law_1027 dL_law_1028 rfl (by decide) (by decide) ?_
  refine lw_arg6 (k := 6) (x := 6) C0 hW hi hl dL_law_1029 dL_law_1030 dL_law_1031 dL_law_1033 dL_law_1034 rfl (by decide) (by decide) ?_
  refine lw_c5 C0 hW (c_X5_feed l E a u (xs (nI i + 1).toNatClampNeg) (xs (nI i + 2).toNatClampNeg) (xs (nI i + 3).toNatClampNeg) (xs (nI i + 4).toNatClampNeg) (xs (nI i + 5).toNatClampNeg) (xs (nI i + 6).toNatClampNeg) C0.2.2.2.2.2.2.1) (cwV 6 C0.2.2.2.2.1 gL_law_X5_feed rfl rfl rfl ⟨rfl, hd_X5_feed⟩ ⟨(Nat.le_of_ble_eq_true rfl), (Nat.le_of_ble_eq_true rfl)⟩) rfl hl.1 rfl (Nat.le_of_ble_eq_true rfl) hf dL_law_1035 (fun H locs hW => ?_)
  refine W.eq (g2 := F0 m 1038 ls [.int (s_X5_feed u (xs (nI i + 1).toNatClampNeg) (xs (nI i + 2).toNatClampNeg) (xs (nI i + 3).toNatClampNeg) (xs (nI i + 4).toNatClampNeg) (xs (nI i + 5).toNatClampNeg) (xs (nI i + 6).toNatClampNeg)).1]) rfl ?_
  refine lv_aload_n C0.1 C0.2.1 dL_law_1038 rfl (lv_at hl 3 rfl) ?_
  refine lw_arg (k := 1) (x := 1) C0 hW hi hl dL_law_1039 dL_law_1040 dL_law_1041 dL_law_1042 dL_law_1043 rfl (by decide) (by decide) ?_
  refine lw_arg (k := 2) (x := 2) C0 hW hi hl dL_law_1044 dL_law_1045 dL_law_1046 dL_law_1047 dL_law_1048 rfl (by decide) (by decide) ?_
  refine lw_arg (k := 3) (x := 3) C0 hW hi hl dL_law_1049 dL_law_1050 dL_law_1051 dL_law_1052 dL_law_1053 rfl (by decide) (by decide) ?_
  refine lw_arg (k := 4) (x := 4) C0 hW hi hl dL_law_1054 dL_law_1055 dL_law_1056 dL_law_1057 dL_law_1058 rfl (by decide) (by decide) ?_
  refine lw_arg (k := 5) (x := 5) C0 hW hi hl dL_law_1059 dL_law_1060 dL_law_1061 dL_law_1062 dL_law_1063 rfl (by decide) (by decide) ?_
  refine lw_arg6 (k := 6) (x := 6) C0 hW hi hl dL_law_1064 dL_law_1065 dL_law_1066 dL_law_1068 dL_law_1069 rfl (by decide) (by decide) ?_
  refine lw_c6 C0 hW (c_X6_feed l E g v (xs (nI i + 1).toNatClampNeg) (xs (nI i + 2).toNatClampNeg) (xs (nI i + 3).toNatClampNeg) (xs (nI i + 4).toNatClampNeg) (xs (nI i + 5).toNatClampNeg) (xs (nI i + 6).toNatClampNeg) hz.zT C0.2.2.2.2.2.2.2.1) (cwV 6 C0.2.2.2.2.1 gL_law_X6_feed rfl rfl rfl ⟨rfl, hd_X6_feed⟩ ⟨(Nat.le_of_ble_eq_true rfl), (Nat.le_of_ble_eq_true rfl)⟩) rfl hl.1 rfl (Nat.le_of_ble_eq_true rfl) hf dL_law_1070 (fun H locs hW => ?_)
  refine W.eq (g2 := F0 m 1073 ls [.int (s_X6_feed v (xs (nI i + 1).toNatClampNeg) (xs (nI i + 2).toNatClampNeg) (xs (nI i + 3).toNatClampNeg) (xs (nI i + 4).toNatClampNeg) (xs (nI i + 5).toNatClampNeg) (xs (nI i + 6).toNatClampNeg)).1, .int (s_X5_feed u (xs (nI i + 1).toNatClampNeg) (xs (nI i + 2).toNatClampNeg) (xs (nI i + 3).toNatClampNeg) (xs (nI i + 4).toNatClampNeg) (xs (nI i + 5).toNatClampNeg) (xs (nI i + 6).toNatClampNeg)).1]) rfl ?_
  obtain ⟨e1, n2, e2⟩ := e_feed hz (xs (nI i + 1).toNatClampNeg) (xs (nI i + 2).toNatClampNeg) (xs (nI i + 3).toNatClampNeg) (xs (nI i + 4).toNatClampNeg) (xs (nI i + 5).toNatClampNeg) (xs (nI i + 6).toNatClampNeg)
  exact lv_icmp_eq (tgt := 1342) C0.1 C0.2.1 dL_law_1073 rfl (fun _ => kk _ _ _ _ _ e2 hW) (fun q => absurd e1 q)
set_option maxHeartbeats 4000000 in
set_option maxRecDepth 100000 in
theorem lw_case_27 (C0 : lw_C p s m c b L xs E a g) (hz : zR u v n) (hW : lw_W E s a g u v H locs) (hi : i + 6 < L) (hl : lv_has ls 4 [(3, .int (nI i)), (0, .ref b), (1, .ref (a 0)), (2, .ref (g 0))]) (hf : cells + 0 ≤ room_1.cells ∧ slots + 0 ≤ room_1.slots) (kk : ∀ (u' v' : xU) (n' : Nat) (H1 : Heap) (locs1 : List Loc), zR u' v' n' → lw_W E s a g u' v' H1 locs1 → W p l e room_1 s m #[Value.ref b] below meth c H1 locs1 cells slots Q (F0 m 1342 ls [])) : W p l e room_1 s m #[Value.ref b] below meth c H locs cells slots Q (F0 m 1078 ls []) := by
  refine lv_aload_n C0.1 C0.2.1 dL_law_1078 rfl (lv_at hl 2 rfl) ?_
  refine lw_c5 C0 hW (c_X5_text l E a u hz.xv C0.2.2.2.2.2.2.1) (cwV 0 C0.2.2.2.2.1 gL_law_X5_text rfl rfl rfl ⟨rfl, hd_X5_text⟩ ⟨(Nat.le_of_ble_eq_true rfl), (Nat.le_of_ble_eq_true rfl)⟩) rfl hl.1 rfl (Nat.le_of_ble_eq_true rfl) hf dL_law_1079 (fun H locs hW => ?_)
  refine W.eq (g2 := F0 m 1082 ls [.int (s_X5_text u).1]) rfl ?_
  refine lv_aload_n C0.1 C0.2.1 dL_law_1082 rfl (lv_at hl 3 rfl) ?_
  refine lw_c6 C0 hW (c_X6_text l E g v hz.zW hz.zTs C0.2.2.2.2.2.2.2.1) (cwV 0 C0.2.2.2.2.1 gL_law_X6_text rfl rfl rfl ⟨rfl, hd_X6_text⟩ ⟨(Nat.le_of_ble_eq_true rfl), (Nat.le_of_ble_eq_true rfl)⟩) rfl hl.1 rfl (Nat.le_of_ble_eq_true rfl) hf dL_law_1083 (fun H locs hW => ?_)
  refine W.eq (g2 := F0 m 1086 ls [.int (s_X6_text v).1, .int (s_X5_text u).1]) rfl ?_
  obtain ⟨e1, n2, e2⟩ := e_text hz
  exact lv_icmp_eq (tgt := 1342) C0.1 C0.2.1 dL_law_1086 rfl (fun _ => kk _ _ _ _ _ e2 hW) (fun q => absurd e1 q)
set_option maxHeartbeats 4000000 in
set_option maxRecDepth 100000 in
theorem lw_case_28 (C0 : lw_C p s m c b L xs E a g) (hz : zR u v n) (hW : lw_W E s a g u v H locs) (hi : i + 6 < L) (hl : lv_has ls 4 [(3, .int (nI i)), (0, .ref b), (1, .ref (a 0)), (2, .ref (g 0))]) (hf : cells + 0 ≤ room_1.cells ∧ slots + 0 ≤ room_1.slots) (kk : ∀ (u' v' : xU) (n' : Nat) (H1 : Heap) (locs1 : List Loc), zR u' v' n' → lw_W E s a g u' v' H1 locs1 → W p l e room_1 s m #[Value.ref b] below meth c H1 locs1 cells slots Q (F0 m 1342 ls [])) : W p l e room_1 s m #[Value.ref b] below meth c H locs cells slots Q (F0 m 1091 ls []) := by
  refine lv_aload_n C0.1 C0.2.1 dL_law_1091 rfl (lv_at hl 2 rfl) ?_
  refine lw_c5 C0 hW (c_X5_image l E a u C0.2.2.2.2.2.2.1) (cwV 0 C0.2.2.2.2.1 gL_law_X5_image rfl rfl rfl ⟨rfl, hd_X5_image⟩ ⟨(Nat.le_of_ble_eq_true rfl), (Nat.le_of_ble_eq_true rfl)⟩) rfl hl.1 rfl (Nat.le_of_ble_eq_true rfl) hf dL_law_1092 (fun H locs hW => ?_)
  refine W.eq (g2 := F0 m 1095 ls [.int (s_X5_image u).1]) rfl ?_
  refine lv_aload_n C0.1 C0.2.1 dL_law_1095 rfl (lv_at hl 3 rfl) ?_
  refine lw_c6 C0 hW (c_X6_image l E g v C0.2.2.2.2.2.2.2.1) (cwV 0 C0.2.2.2.2.1 gL_law_X6_image rfl rfl rfl ⟨rfl, hd_X6_image⟩ ⟨(Nat.le_of_ble_eq_true rfl), (Nat.le_of_ble_eq_true rfl)⟩) rfl hl.1 rfl (Nat.le_of_ble_eq_true rfl) hf dL_law_1096 (fun H locs hW => ?_)
  refine W.eq (g2 := F0 m 1099 ls [.int (s_X6_image v).1, .int (s_X5_image u).1]) rfl ?_
  obtain ⟨e1, n2, e2⟩ := e_image hz
  exact lv_icmp_eq (tgt := 1342) C0.1 C0.2.1 dL_law_1099 rfl (fun _ => kk _ _ _ _ _ e2 hW) (fun q => absurd e1 q)
set_option maxHeartbeats 4000000 in
set_option maxRecDepth 100000 in
theorem lw_case_29 (C0 : lw_C p s m c b L xs E a g) (hz : zR u v n) (hW : lw_W E s a g u v H locs) (hi : i + 6 < L) (hl : lv_has ls 4 [(3, .int (nI i)), (0, .ref b), (1, .ref (a 0)), (2, .ref (g 0))]) (hf : cells + 0 ≤ room_1.cells ∧ slots + 0 ≤ room_1.slots) (kk : ∀ (u' v' : xU) (n' : Nat) (H1 : Heap) (locs1 : List Loc), zR u' v' n' → lw_W E s a g u' v' H1 locs1 → W p l e room_1 s m #[Value.ref b] below meth c H1 locs1 cells slots Q (F0 m 1342 ls [])) : W p l e room_1 s m #[Value.ref b] below meth c H locs cells slots Q (F0 m 1104 ls []) := by
  refine lv_aload_n C0.1 C0.2.1 dL_law_1104 rfl (lv_at hl 2 rfl) ?_
  refine lw_c5 C0 hW (c_X5_back l E a u hz.zK C0.2.2.2.2.2.2.1) (cwV 0 C0.2.2.2.2.1 gL_law_X5_back rfl rfl rfl ⟨rfl, hd_X5_back⟩ ⟨(Nat.le_of_ble_eq_true rfl), (Nat.le_of_ble_eq_true rfl)⟩) rfl hl.1 rfl (Nat.le_of_ble_eq_true rfl) hf dL_law_1105 (fun H locs hW => ?_)
  refine W.eq (g2 := F0 m 1108 ls [.int (s_X5_back u).1]) rfl ?_
  refine lv_aload_n C0.1 C0.2.1 dL_law_1108 rfl (lv_at hl 3 rfl) ?_
  refine lw_c6 C0 hW (c_X6_back l E g v C0.2.2.2.2.2.2.2.1) (cwV 0 C0.2.2.2.2.1 gL_law_X6_back rfl rfl rfl ⟨rfl, hd_X6_back⟩ ⟨(Nat.le_of_ble_eq_true rfl), (Nat.le_of_ble_eq_true rfl)⟩) rfl hl.1 rfl (Nat.le_of_ble_eq_true rfl) hf dL_law_1109 (fun H locs hW => ?_)
  refine W.eq (g2 := F0 m 1112 ls [.int (s_X6_back v).1, .int (s_X5_back u).1]) rfl ?_
  obtain ⟨e1, n2, e2⟩ := e_back hz
  exact lv_icmp_eq (tgt := 1342) C0.1 C0.2.1 dL_law_1112 rfl (fun _ => kk _ _ _ _ _ e2 hW) (fun q => absurd e1 q)
set_option maxHeartbeats 4000000 in
set_option maxRecDepth 100000 in
theorem lw_case_30 (C0 : lw_C p s m c b L xs E a g) (hz : zR u v n) (hW : lw_W E s a g u v H locs) (hi : i + 6 < L) (hl : lv_has ls 4 [(3, .int (nI i)), (0, .ref b), (1, .ref (a 0)), (2, .ref (g 0))]) (hf : cells + 0 ≤ room_1.cells ∧ slots + 0 ≤ room_1.slots) (kk : ∀ (u' v' : xU) (n' : Nat) (H1 : Heap) (locs1 : List Loc), zR u' v' n' → lw_W E s a g u' v' H1 locs1 → W p l e room_1 s m #[Value.ref b] below meth c H1 locs1 cells slots Q (F0 m 1342 ls [])) : W p l e room_1 s m #[Value.ref b] below meth c H locs cells slots Q (F0 m 1117 ls []) := by
  refine lv_aload_n C0.1 C0.2.1 dL_law_1117 rfl (lv_at hl 2 rfl) ?_
  refine lw_arg (k := 1) (x := 1) C0 hW hi hl dL_law_1118 dL_law_1119 dL_law_1120 dL_law_1121 dL_law_1122 rfl (by decide) (by decide) ?_
  refine lw_arg (k := 2) (x := 2) C0 hW hi hl dL_law_1123 dL_law_1124 dL_law_1125 dL_law_1126 dL_law_1127 rfl (by decide) (by decide) ?_
  refine lw_arg (k := 3) (x := 3) C0 hW hi hl dL_law_1128 dL_law_1129 dL_law_1130 dL_law_1131 dL_law_1132 rfl (by decide) (by decide) ?_
  refine lw_arg (k := 4) (x := 4) C0 hW hi hl dL_law_1133 dL_law_1134 dL_law_1135 dL_law_1136 dL_law_1137 rfl (by decide) (by decide) ?_
  refine lw_c5 C0 hW (c_X5_load l E a u (xs (nI i + 1).toNatClampNeg) (xs (nI i + 2).toNatClampNeg) (xs (nI i + 3).toNatClampNeg) (xs (nI i + 4).toNatClampNeg) hz.xv C0.2.2.2.2.2.2.1) (cwV 4 C0.2.2.2.2.1 gL_law_X5_load rfl rfl rfl ⟨rfl, hd_X5_load⟩ ⟨(Nat.le_of_ble_eq_true rfl), (Nat.le_of_ble_eq_true rfl)⟩) rfl hl.1 rfl (Nat.le_of_ble_eq_true rfl) hf dL_law_1138 (fun H locs hW => ?_)
  refine W.eq (g2 := F0 m 1141 ls [.int (s_X5_load u (xs (nI i + 1).toNatClampNeg) (xs (nI i + 2).toNatClampNeg) (xs (nI i + 3).toNatClampNeg) (xs (nI i + 4).toNatClampNeg)).1]) rfl ?_
  refine lv_aload_n C0.1 C0.2.1 dL_law_1141 rfl (lv_at hl 3 rfl) ?_
  refine lw_arg (k := 1) (x := 1) C0 hW hi hl dL_law_1142 dL_law_1143 dL_law_1144 dL_law_1145 dL_law_1146 rfl (by decide) (by decide) ?_
  refine lw_arg (k := 2) (x := 2) C0 hW hi hl dL_law_1147 dL_law_1148 dL_law_1149 dL_law_1150 dL_law_1151 rfl (by decide) (by decide) ?_
  refine lw_arg (k := 3) (x := 3) C0 hW hi hl dL_law_1152 dL_law_1153 dL_law_1154 dL_law_1155 dL_law_1156 rfl (by decide) (by decide) ?_
  refine lw_arg (k := 4) (x := 4) C0 hW hi hl dL_law_1157 dL_law_1158 dL_law_1159 dL_law_1160 dL_law_1161 rfl (by decide) (by decide) ?_
  refine lw_c6 C0 hW (c_X6_load l E g v (xs (nI i + 1).toNatClampNeg) (xs (nI i + 2).toNatClampNeg) (xs (nI i + 3).toNatClampNeg) (xs (nI i + 4).toNatClampNeg) hz.zW hz.zZ C0.2.2.2.2.2.2.2.1) (cwV 4 C0.2.2.2.2.1 gL_law_X6_load rfl rfl rfl ⟨rfl, hd_X6_load⟩ ⟨(Nat.le_of_ble_eq_true rfl), (Nat.le_of_ble_eq_true rfl)⟩) rfl hl.1 rfl (Nat.le_of_ble_eq_true rfl) hf dL_law_1162 (fun H locs hW => ?_)
  refine W.eq (g2 := F0 m 1165 ls [.int (s_X6_load v (xs (nI i + 1).toNatClampNeg) (xs (nI i + 2).toNatClampNeg) (xs (nI i + 3).toNatClampNeg) (xs (nI i + 4).toNatClampNeg)).1, .int (s_X5_load u (xs (nI i + 1).toNatClampNeg) (xs (nI i + 2).toNatClampNeg) (xs (nI i + 3).toNatClampNeg) (xs (nI i + 4).toNatClampNeg)).1]) rfl ?_
  obtain ⟨e1, n2, e2⟩ := e_load hz (xs (nI i + 1).toNatClampNeg) (xs (nI i + 2).toNatClampNeg) (xs (nI i + 3).toNatClampNeg) (xs (nI i + 4).toNatClampNeg)
  exact lv_icmp_eq (tgt := 1342) C0.1 C0.2.1 dL_law_1165 rfl (fun _ => kk _ _ _ _ _ e2 hW) (fun q => absurd e1 q)
set_option maxHeartbeats 4000000 in
set_option maxRecDepth 100000 in
theorem lw_case_31 (C0 : lw_C p s m c b L xs E a g) (hz : zR u v n) (hW : lw_W E s a g u v H locs) (hi : i + 6 < L) (hl : lv_has ls 4 [(3, .int (nI i)), (0, .ref b), (1, .ref (a 0)), (2, .ref (g 0))]) (hf : cells + 0 ≤ room_1.cells ∧ slots + 0 ≤ room_1.slots) (kk : ∀ (u' v' : xU) (n' : Nat) (H1 : Heap) (locs1 : List Loc), zR u' v' n' → lw_W E s a g u' v' H1 locs1 → W p l e room_1 s m #[Value.ref b] below meth c H1 locs1 cells slots Q (F0 m 1342 ls [])) : W p l e room_1 s m #[Value.ref b] below meth c H locs cells slots Q (F0 m 1170 ls []) := by
  refine lv_aload_n C0.1 C0.2.1 dL_law_1170 rfl (lv_at hl 2 rfl) ?_
  refine lw_arg (k := 1) (x := 1) C0 hW hi hl dL_law_1171 dL_law_1172 dL_law_1173 dL_law_1174 dL_law_1175 rfl (by decide) (by decide) ?_
  refine lw_c5r C0 hW (c_X5_count l E a u (xs (nI i + 1).toNatClampNeg) hz.zS) (cwV 1 C0.2.2.2.2.1 gL_law_X5_count rfl rfl rfl ⟨rfl, hd_X5_count⟩ ⟨(Nat.le_of_ble_eq_true rfl), (Nat.le_of_ble_eq_true rfl)⟩) rfl hl.1 rfl (Nat.le_of_ble_eq_true rfl) hf dL_law_1176 ?_
  refine W.eq (g2 := F0 m 1179 ls [.int (s_X5_count u (xs (nI i + 1).toNatClampNeg))]) rfl ?_
  refine lv_aload_n C0.1 C0.2.1 dL_law_1179 rfl (lv_at hl 3 rfl) ?_
  refine lw_arg (k := 1) (x := 1) C0 hW hi hl dL_law_1180 dL_law_1181 dL_law_1182 dL_law_1183 dL_law_1184 rfl (by decide) (by decide) ?_
  refine lw_c6 C0 hW (c_X6_count l E g v (xs (nI i + 1).toNatClampNeg) hz.zW C0.2.2.2.2.2.2.2.1) (cwV 1 C0.2.2.2.2.1 gL_law_X6_count rfl rfl rfl ⟨rfl, hd_X6_count⟩ ⟨(Nat.le_of_ble_eq_true rfl), (Nat.le_of_ble_eq_true rfl)⟩) rfl hl.1 rfl (Nat.le_of_ble_eq_true rfl) hf dL_law_1185 (fun H locs hW => ?_)
  refine W.eq (g2 := F0 m 1188 ls [.int (s_X6_count v (xs (nI i + 1).toNatClampNeg)).1, .int (s_X5_count u (xs (nI i + 1).toNatClampNeg))]) rfl ?_
  obtain ⟨e1, e2⟩ := e_count hz (xs (nI i + 1).toNatClampNeg)
  exact lv_icmp_eq (tgt := 1342) C0.1 C0.2.1 dL_law_1188 rfl (fun _ => kk _ _ n _ _ (by rw [e2]; exact (zR_lays hz).1) hW) (fun q => absurd e1 q)
set_option maxHeartbeats 4000000 in
set_option maxRecDepth 100000 in
theorem lw_case_32 (C0 : lw_C p s m c b L xs E a g) (hz : zR u v n) (hW : lw_W E s a g u v H locs) (hi : i + 6 < L) (hl : lv_has ls 4 [(3, .int (nI i)), (0, .ref b), (1, .ref (a 0)), (2, .ref (g 0))]) (hf : cells + 0 ≤ room_1.cells ∧ slots + 0 ≤ room_1.slots) (kk : ∀ (u' v' : xU) (n' : Nat) (H1 : Heap) (locs1 : List Loc), zR u' v' n' → lw_W E s a g u' v' H1 locs1 → W p l e room_1 s m #[Value.ref b] below meth c H1 locs1 cells slots Q (F0 m 1342 ls [])) : W p l e room_1 s m #[Value.ref b] below meth c H locs cells slots Q (F0 m 1193 ls []) := by
  refine lv_aload_n C0.1 C0.2.1 dL_law_1193 rfl (lv_at hl 2 rfl) ?_
  refine lw_arg (k := 1) (x := 1) C0 hW hi hl dL_law_1194 dL_law_1195 dL_law_1196 dL_law_1197 dL_law_1198 rfl (by decide) (by decide) ?_
  refine lw_arg (k := 2) (x := 2) C0 hW hi hl dL_law_1199 dL_law_1200 dL_law_1201 dL_law_1202 dL_law_1203 rfl (by decide) (by decide) ?_
  refine lw_arg (k := 3) (x := 3) C0 hW hi hl dL_law_1204 dL_law_1205 dL_law_1206 dL_law_1207 dL_law_1208 rfl (by decide) (by decide) ?_
  refine lw_c5 C0 hW (c_X5_sheet l E a u (xs (nI i + 1).toNatClampNeg) (xs (nI i + 2).toNatClampNeg) (xs (nI i + 3).toNatClampNeg) C0.2.2.2.2.2.2.1) (cwV 3 C0.2.2.2.2.1 gL_law_X5_sheet rfl rfl rfl ⟨rfl, hd_X5_sheet⟩ ⟨(Nat.le_of_ble_eq_true rfl), (Nat.le_of_ble_eq_true rfl)⟩) rfl hl.1 rfl (Nat.le_of_ble_eq_true rfl) hf dL_law_1209 (fun H locs hW => ?_)
  refine W.eq (g2 := F0 m 1212 ls [.int (s_X5_sheet u (xs (nI i + 1).toNatClampNeg) (xs (nI i + 2).toNatClampNeg) (xs (nI i + 3).toNatClampNeg)).1]) rfl ?_
  refine lv_aload_n C0.1 C0.2.1 dL_law_1212 rfl (lv_at hl 3 rfl) ?_
  refine lw_arg (k := 1) (x := 1) C0 hW hi hl dL_law_1213 dL_law_1214 dL_law_1215 dL_law_1216 dL_law_1217 rfl (by decide) (by decide) ?_
  refine lw_arg (k := 2) (x := 2) C0 hW hi hl dL_law_1218 dL_law_1219 dL_law_1220 dL_law_1221 dL_law_1222 rfl (by decide) (by decide) ?_
  refine lw_arg (k := 3) (x := 3) C0 hW hi hl dL_law_1223 dL_law_1224 dL_law_1225 dL_law_1226 dL_law_1227 rfl (by decide) (by decide) ?_
  refine lw_c6 C0 hW (c_X6_sheet l E g v (xs (nI i + 1).toNatClampNeg) (xs (nI i + 2).toNatClampNeg) (xs (nI i + 3).toNatClampNeg) C0.2.2.2.2.2.2.2.1) (cwV 3 C0.2.2.2.2.1 gL_law_X6_sheet rfl rfl rfl ⟨rfl, hd_X6_sheet⟩ ⟨(Nat.le_of_ble_eq_true rfl), (Nat.le_of_ble_eq_true rfl)⟩) rfl hl.1 rfl (Nat.le_of_ble_eq_true rfl) hf dL_law_1228 (fun H locs hW => ?_)
  refine W.eq (g2 := F0 m 1231 ls [.int (s_X6_sheet v (xs (nI i + 1).toNatClampNeg) (xs (nI i + 2).toNatClampNeg) (xs (nI i + 3).toNatClampNeg)).1, .int (s_X5_sheet u (xs (nI i + 1).toNatClampNeg) (xs (nI i + 2).toNatClampNeg) (xs (nI i + 3).toNatClampNeg)).1]) rfl ?_
  obtain ⟨e1, n2, e2⟩ := e_sheet hz (xs (nI i + 1).toNatClampNeg) (xs (nI i + 2).toNatClampNeg) (xs (nI i + 3).toNatClampNeg)
  exact lv_icmp_eq (tgt := 1342) C0.1 C0.2.1 dL_law_1231 rfl (fun _ => kk _ _ _ _ _ e2 hW) (fun q => absurd e1 q)
set_option maxHeartbeats 4000000 in
set_option maxRecDepth 100000 in
theorem lw_case_33 (C0 : lw_C p s m c b L xs E a g) (hz : zR u v n) (hW : lw_W E s a g u v H locs) (hi : i + 6 < L) (hl : lv_has ls 4 [(3, .int (nI i)), (0, .ref b), (1, .ref (a 0)), (2, .ref (g 0))]) (hf : cells + 0 ≤ room_1.cells ∧ slots + 0 ≤ room_1.slots) (kk : ∀ (u' v' : xU) (n' : Nat) (H1 : Heap) (locs1 : List Loc), zR u' v' n' → lw_W E s a g u' v' H1 locs1 → W p l e room_1 s m #[Value.ref b] below meth c H1 locs1 cells slots Q (F0 m 1342 ls [])) : W p l e room_1 s m #[Value.ref b] below meth c H locs cells slots Q (F0 m 1236 ls []) := by
  refine lv_aload_n C0.1 C0.2.1 dL_law_1236 rfl (lv_at hl 2 rfl) ?_
  refine lw_arg (k := 1) (x := 1) C0 hW hi hl dL_law_1237 dL_law_1238 dL_law_1239 dL_law_1240 dL_law_1241 rfl (by decide) (by decide) ?_
  refine lw_arg (k := 2) (x := 2) C0 hW hi hl dL_law_1242 dL_law_1243 dL_law_1244 dL_law_1245 dL_law_1246 rfl (by decide) (by decide) ?_
  refine lw_arg (k := 3) (x := 3) C0 hW hi hl dL_law_1247 dL_law_1248 dL_law_1249 dL_law_1250 dL_law_1251 rfl (by decide) (by decide) ?_
  refine lw_c5 C0 hW (c_X5_put l E a u (xs (nI i + 1).toNatClampNeg) (xs (nI i + 2).toNatClampNeg) (xs (nI i + 3).toNatClampNeg) C0.2.2.2.2.2.2.1) (cwV 3 C0.2.2.2.2.1 gL_law_X5_put rfl rfl rfl ⟨rfl, hd_X5_put⟩ ⟨(Nat.le_of_ble_eq_true rfl), (Nat.le_of_ble_eq_true rfl)⟩) rfl hl.1 rfl (Nat.le_of_ble_eq_true rfl) hf dL_law_1252 (fun H locs hW => ?_)
  refine W.eq (g2 := F0 m 1255 ls [.int (s_X5_put u (xs (nI i + 1).toNatClampNeg) (xs (nI i + 2).toNatClampNeg) (xs (nI i + 3).toNatClampNeg)).1]) rfl ?_
  refine lv_aload_n C0.1 C0.2.1 dL_law_1255 rfl (lv_at hl 3 rfl) ?_
  refine lw_arg (k := 1) (x := 1) C0 hW hi hl dL_law_1256 dL_law_1257 dL_law_1258 dL_law_1259 dL_law_1260 rfl (by decide) (by decide) ?_
  refine lw_arg (k := 2) (x := 2) C0 hW hi hl dL_law_1261 dL_law_1262 dL_law_1263 dL_law_1264 dL_law_1265 rfl (by decide) (by decide) ?_
  refine lw_arg (k := 3) (x := 3) C0 hW hi hl dL_law_1266 dL_law_1267 dL_law_1268 dL_law_1269 dL_law_1270 rfl (by decide) (by decide) ?_
  refine lw_c6 C0 hW (c_X6_put l E g v (xs (nI i + 1).toNatClampNeg) (xs (nI i + 2).toNatClampNeg) (xs (nI i + 3).toNatClampNeg) hz.zZ C0.2.2.2.2.2.2.2.1) (cwV 3 C0.2.2.2.2.1 gL_law_X6_put rfl rfl rfl ⟨rfl, hd_X6_put⟩ ⟨(Nat.le_of_ble_eq_true rfl), (Nat.le_of_ble_eq_true rfl)⟩) rfl hl.1 rfl (Nat.le_of_ble_eq_true rfl) hf dL_law_1271 (fun H locs hW => ?_)
  refine W.eq (g2 := F0 m 1274 ls [.int (s_X6_put v (xs (nI i + 1).toNatClampNeg) (xs (nI i + 2).toNatClampNeg) (xs (nI i + 3).toNatClampNeg)).1, .int (s_X5_put u (xs (nI i + 1).toNatClampNeg) (xs (nI i + 2).toNatClampNeg) (xs (nI i + 3).toNatClampNeg)).1]) rfl ?_
  obtain ⟨e1, n2, e2⟩ := e_put hz (xs (nI i + 1).toNatClampNeg) (xs (nI i + 2).toNatClampNeg) (xs (nI i + 3).toNatClampNeg)
  exact lv_icmp_eq (tgt := 1342) C0.1 C0.2.1 dL_law_1274 rfl (fun _ => kk _ _ _ _ _ e2 hW) (fun q => absurd e1 q)
set_option maxHeartbeats 4000000 in
set_option maxRecDepth 100000 in
theorem lw_case_34 (C0 : lw_C p s m c b L xs E a g) (hz : zR u v n) (hW : lw_W E s a g u v H locs) (hi : i + 6 < L) (hl : lv_has ls 4 [(3, .int (nI i)), (0, .ref b), (1, .ref (a 0)), (2, .ref (g 0))]) (hf : cells + 0 ≤ room_1.cells ∧ slots + 0 ≤ room_1.slots) (kk : ∀ (u' v' : xU) (n' : Nat) (H1 : Heap) (locs1 : List Loc), zR u' v' n' → lw_W E s a g u' v' H1 locs1 → W p l e room_1 s m #[Value.ref b] below meth c H1 locs1 cells slots Q (F0 m 1342 ls [])) : W p l e room_1 s m #[Value.ref b] below meth c H locs cells slots Q (F0 m 1279 ls []) := by
  refine lv_aload_n C0.1 C0.2.1 dL_law_1279 rfl (lv_at hl 2 rfl) ?_
  refine lw_arg (k := 1) (x := 1) C0 hW hi hl dL_law_1280 dL_law_1281 dL_law_1282 dL_law_1283 dL_law_1284 rfl (by decide) (by decide) ?_
  refine lw_arg (k := 2) (x := 2) C0 hW hi hl dL_law_1285 dL_law_1286 dL_law_1287 dL_law_1288 dL_law_1289 rfl (by decide) (by decide) ?_
  refine lw_arg (k := 3) (x := 3) C0 hW hi hl dL_law_1290 dL_law_1291 dL_law_1292 dL_law_1293 dL_law_1294 rfl (by decide) (by decide) ?_
  refine lw_arg (k := 4) (x := 4) C0 hW hi hl dL_law_1295 dL_law_1296 dL_law_1297 dL_law_1298 dL_law_1299 rfl (by decide) (by decide) ?_
  refine lw_arg (k := 5) (x := 5) C0 hW hi hl dL_law_1300 dL_law_1301 dL_law_1302 dL_law_1303 dL_law_1304 rfl (by decide) (by decide) ?_
  refine lw_c5 C0 hW (c_X5_copy l E a u (xs (nI i + 1).toNatClampNeg) (xs (nI i + 2).toNatClampNeg) (xs (nI i + 3).toNatClampNeg) (xs (nI i + 4).toNatClampNeg) (xs (nI i + 5).toNatClampNeg) hz.zC C0.2.2.2.2.2.2.1) (cwV 5 C0.2.2.2.2.1 gL_law_X5_copy rfl rfl rfl ⟨rfl, hd_X5_copy⟩ ⟨(Nat.le_of_ble_eq_true rfl), (Nat.le_of_ble_eq_true rfl)⟩) rfl hl.1 rfl (Nat.le_of_ble_eq_true rfl) hf dL_law_1305 (fun H locs hW => ?_)
  refine W.eq (g2 := F0 m 1308 ls [.int (s_X5_copy u (xs (nI i + 1).toNatClampNeg) (xs (nI i + 2).toNatClampNeg) (xs (nI i + 3).toNatClampNeg) (xs (nI i + 4).toNatClampNeg) (xs (nI i + 5).toNatClampNeg)).1]) rfl ?_
  refine lv_aload_n C0.1 C0.2.1 dL_law_1308 rfl (lv_at hl 3 rfl) ?_
  refine lw_arg (k := 1) (x := 1) C0 hW hi hl dL_law_1309 dL_law_1310 dL_law_1311 dL_law_1312 dL_law_1313 rfl (by decide) (by decide) ?_
  refine lw_arg (k := 2) (x := 2) C0 hW hi hl dL_law_1314 dL_law_1315 dL_law_1316 dL_law_1317 dL_law_1318 rfl (by decide) (by decide) ?_
  refine lw_arg (k := 3) (x := 3) C0 hW hi hl dL_law_1319 dL_law_1320 dL_law_1321 dL_law_1322 dL_law_1323 rfl (by decide) (by decide) ?_
  refine lw_arg (k := 4) (x := 4) C0 hW hi hl dL_law_1324 dL_law_1325 dL_law_1326 dL_law_1327 dL_law_1328 rfl (by decide) (by decide) ?_
  refine lw_arg (k := 5) (x := 5) C0 hW hi hl dL_law_1329 dL_law_1330 dL_law_1331 dL_law_1332 dL_law_1333 rfl (by decide) (by decide) ?_
  refine lw_c6 C0 hW (c_X6_copy l E g v (xs (nI i + 1).toNatClampNeg) (xs (nI i + 2).toNatClampNeg) (xs (nI i + 3).toNatClampNeg) (xs (nI i + 4).toNatClampNeg) (xs (nI i + 5).toNatClampNeg) hz.zZ C0.2.2.2.2.2.2.2.1) (cwV 5 C0.2.2.2.2.1 gL_law_X6_copy rfl rfl rfl ⟨rfl, hd_X6_copy⟩ ⟨(Nat.le_of_ble_eq_true rfl), (Nat.le_of_ble_eq_true rfl)⟩) rfl hl.1 rfl (Nat.le_of_ble_eq_true rfl) hf dL_law_1334 (fun H locs hW => ?_)
  refine W.eq (g2 := F0 m 1337 ls [.int (s_X6_copy v (xs (nI i + 1).toNatClampNeg) (xs (nI i + 2).toNatClampNeg) (xs (nI i + 3).toNatClampNeg) (xs (nI i + 4).toNatClampNeg) (xs (nI i + 5).toNatClampNeg)).1, .int (s_X5_copy u (xs (nI i + 1).toNatClampNeg) (xs (nI i + 2).toNatClampNeg) (xs (nI i + 3).toNatClampNeg) (xs (nI i + 4).toNatClampNeg) (xs (nI i + 5).toNatClampNeg)).1]) rfl ?_
  obtain ⟨e1, n2, e2⟩ := e_copy hz (xs (nI i + 1).toNatClampNeg) (xs (nI i + 2).toNatClampNeg) (xs (nI i + 3).toNatClampNeg) (xs (nI i + 4).toNatClampNeg) (xs (nI i + 5).toNatClampNeg)
  exact lv_icmp_eq (tgt := 1342) C0.1 C0.2.1 dL_law_1337 rfl (fun _ => kk _ _ _ _ _ e2 hW) (fun q => absurd e1 q)
end LAW2
