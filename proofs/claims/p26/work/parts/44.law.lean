section MG_44case
abbrev PZ : Int32 → aO → aW → Prop := fun x o _ => o = .inl (some (.int x))
def flc_0 (N K L : Nat) (xs : Nat → Int32) (k : Int32 → CS → MS → Int64 → Option Int32) (i : Int32) (S : CS) (M : MS) (nv : Int64) : Option Int32 :=
  (if (i + (1 : Int32)) < 0 ∨ L ≤ (i + (1 : Int32)).toNatClampNeg then none else (if (i + (2 : Int32)) < 0 ∨ L ≤ (i + (2 : Int32)).toNatClampNeg then none else (if (i + (3 : Int32)) < 0 ∨ L ≤ (i + (3 : Int32)).toNatClampNeg then none else (if (i + (4 : Int32)) < 0 ∨ L ≤ (i + (4 : Int32)).toNatClampNeg then none else ((gL_know N K S (xs (i + (1 : Int32)).toNatClampNeg) (xs (i + (2 : Int32)).toNatClampNeg) (xs (i + (3 : Int32)).toNatClampNeg) (xs (i + (4 : Int32)).toNatClampNeg) nv).bind (fun z254 => (if (i + (1 : Int32)) < 0 ∨ L ≤ (i + (1 : Int32)).toNatClampNeg then none else (if (i + (2 : Int32)) < 0 ∨ L ≤ (i + (2 : Int32)).toNatClampNeg then none else (if (i + (3 : Int32)) < 0 ∨ L ≤ (i + (3 : Int32)).toNatClampNeg then none else (if (i + (4 : Int32)) < 0 ∨ L ≤ (i + (4 : Int32)).toNatClampNeg then none else ((gM_know N K M (xs (i + (1 : Int32)).toNatClampNeg) (xs (i + (2 : Int32)).toNatClampNeg) (xs (i + (3 : Int32)).toNatClampNeg) (xs (i + (4 : Int32)).toNatClampNeg)).bind (fun z284 => k (i + (6 : Int32)) z254.2.1 z284.2 z254.2.2))))))))))))
set_option maxHeartbeats 4000000 in
set_option maxRecDepth 100000 in
theorem tlc_0 {nm : String} {hh : List (Nat × Nat × Nat × Nat)} {N K b L kc ks : Nat} {xs : Nat → Int32} {r rq : Nat → Nat} {o : Nat} {k : Int32 → CS → MS → Int64 → Option Int32} (hk : ∀ (i : Int32) (S : CS) (M : MS) (nv : Int64) (sv : Value), AW RL nm cL_law 7 (some .boolean) hh (XS b L xs) (2 * K + 20) (PZ) kc ks (k i S M nv) 27 [(0, .ref b), (1, .ref (r 0)), (2, .ref (rq 0)), (3, .ref o), (4, .int i)] [] (WA r rq o S M nv sv)) (i : Int32) (S : CS) (M : MS) (nv : Int64) (sv : Value) : AW RL nm cL_law 7 (some .boolean) hh (XS b L xs) (2 * K + 20) (PZ) (kc + 300) (ks + 17000) (flc_0 N K L xs k i S M nv) 228 [(0, .ref b), (1, .ref (r 0)), (2, .ref (rq 0)), (3, .ref o), (4, .int i)] [] (WA r rq o S M nv sv) := by
  unfold flc_0
  refine aw_aload_n (q := 229) dL_law_228 rfl 1 rfl ?_
  refine aw_aload_n (q := 230) dL_law_229 rfl 0 rfl ?_
  refine aw_iload (q := 232) dL_law_230 rfl 4 rfl ?_
  refine aw_iconst (q := 233) (v := 1) dL_law_232 rfl (by decide) ?_
  refine aw_iadd (q := 234) dL_law_233 rfl ?_
  refine aw_sld (q := 235) dL_law_234 rfl ?_
  refine aw_aload_n (q := 236) dL_law_235 rfl 0 rfl ?_
  refine aw_iload (q := 238) dL_law_236 rfl 4 rfl ?_
  refine aw_iconst (q := 239) (v := 2) dL_law_238 rfl (by decide) ?_
  refine aw_iadd (q := 240) dL_law_239 rfl ?_
  refine aw_sld (q := 241) dL_law_240 rfl ?_
  refine aw_aload_n (q := 242) dL_law_241 rfl 0 rfl ?_
  refine aw_iload (q := 244) dL_law_242 rfl 4 rfl ?_
  refine aw_iconst (q := 245) (v := 3) dL_law_244 rfl (by decide) ?_
  refine aw_iadd (q := 246) dL_law_245 rfl ?_
  refine aw_sld (q := 247) dL_law_246 rfl ?_
  refine aw_aload_n (q := 248) dL_law_247 rfl 0 rfl ?_
  refine aw_iload (q := 250) dL_law_248 rfl 4 rfl ?_
  refine aw_iconst (q := 251) (v := 4) dL_law_250 rfl (by decide) ?_
  refine aw_iadd (q := 252) dL_law_251 rfl ?_
  refine aw_sld (q := 253) dL_law_252 rfl ?_
  refine aw_aload_n (q := 254) dL_law_253 rfl 3 rfl ?_
  refine aw_call (q := 257) (kc1 := kc + 296) (ks1 := ks + 16976) (wc := WX r S ++ [OC o nv sv]) (wr := WM rq M) (st1 := fun z254 g254 => [.int z254.1]) (ws1 := fun z254 g254 => WM rq M ++ (WX r z254.2.1 ++ [OC o z254.2.2 sv])) (As := [.ref (r 0), .int (xs (i + (1 : Int32)).toNatClampNeg), .int (xs (i + (2 : Int32)).toNatClampNeg), .int (xs (i + (3 : Int32)).toNatClampNeg), .int (xs (i + (4 : Int32)).toNatClampNeg), .ref o]) [0, 1, 2, 3, 4, 5, 6, 7, 8, 9, 10, 11, 12, 13, 14, 15, 16, 17, 18, 19, 20, 21, 22, 23, 24, 25, 26, 41] [27, 28, 29, 30, 31, 32, 33, 34, 35, 36, 37, 38, 39, 40] (fun _ => runSX dL_law_254 mix_L_know st_L_know ml_L_155 (by omega) rfl (Nat.le_of_ble_eq_true rfl) rfl) (fun x9 h9 => ogL_know h9) rfl rfl rfl rfl rfl (by decide +kernel) (by omega) (by omega) (fun _ _ => rfl) (fun _ _ => rfl) (fun z254 g254 => ?_)
  refine aw_world (ws' := (WA r rq o z254.2.1 M z254.2.2 sv)) [14, 15, 16, 17, 18, 19, 20, 21, 22, 23, 24, 25, 26, 27, 28, 29, 30, 31, 32, 33, 34, 35, 36, 37, 38, 39, 40, 0, 1, 2, 3, 4, 5, 6, 7, 8, 9, 10, 11, 12, 13, 41] rfl rfl ?_
  refine aw_istore (q := 259) (lv' := [(5, .int z254.1), (0, .ref b), (1, .ref (r 0)), (2, .ref (rq 0)), (3, .ref o), (4, .int i)]) dL_law_257 rfl (by decide) rfl ?_
  refine aw_aload_n (q := 260) dL_law_259 rfl 3 rfl ?_
  refine aw_aload_n (q := 261) dL_law_260 rfl 1 rfl ?_
  refine aw_iload (q := 263) dL_law_261 rfl 5 rfl ?_
  refine aw_iconst (q := 264) (v := 1) dL_law_263 rfl (by decide) ?_
  refine aw_iadd (q := 265) dL_law_264 rfl ?_
  refine aw_sld (q := 266) dL_law_265 rfl ?_
  refine aw_aload_n (q := 267) dL_law_266 rfl 1 rfl ?_
  refine aw_iload (q := 269) dL_law_267 rfl 5 rfl ?_
  refine aw_iconst (q := 270) (v := 2) dL_law_269 rfl (by decide) ?_
  refine aw_iadd (q := 271) dL_law_270 rfl ?_
  refine aw_sld (q := 272) dL_law_271 rfl ?_
  refine aw_aload_n (q := 273) dL_law_272 rfl 1 rfl ?_
  refine aw_iload (q := 275) dL_law_273 rfl 5 rfl ?_
  refine aw_iconst (q := 276) (v := 3) dL_law_275 rfl (by decide) ?_
  refine aw_iadd (q := 277) dL_law_276 rfl ?_
  refine aw_sld (q := 278) dL_law_277 rfl ?_
  refine aw_aload_n (q := 279) dL_law_278 rfl 1 rfl ?_
  refine aw_iload (q := 281) dL_law_279 rfl 5 rfl ?_
  refine aw_iconst (q := 282) (v := 4) dL_law_281 rfl (by decide) ?_
  refine aw_iadd (q := 283) dL_law_282 rfl ?_
  refine aw_sld (q := 284) dL_law_283 rfl ?_
  refine aw_call (q := 287) (kc1 := kc + 296) (ks1 := ks + 16976) (wc := WM rq M) (wr := WX r z254.2.1 ++ [OC o z254.2.2 sv]) (st1 := fun z284 g284 => [.int z284.1]) (ws1 := fun z284 g284 => (WX r z254.2.1 ++ [OC o z254.2.2 sv]) ++ WM rq z284.2) (As := [.ref (rq 0), .int (xs (i + (1 : Int32)).toNatClampNeg), .int (xs (i + (2 : Int32)).toNatClampNeg), .int (xs (i + (3 : Int32)).toNatClampNeg), .int (xs (i + (4 : Int32)).toNatClampNeg)]) [27, 28, 29, 30, 31, 32, 33, 34, 35, 36, 37, 38, 39, 40] [0, 1, 2, 3, 4, 5, 6, 7, 8, 9, 10, 11, 12, 13, 14, 15, 16, 17, 18, 19, 20, 21, 22, 23, 24, 25, 26, 41] (fun _ => runV (q0 := 27) dL_law_284 mi_X7_know im_X7_know se_X7_know ml_L_160 (by omega) rfl (Nat.le_of_ble_eq_true rfl) rfl rfl rfl rfl) (fun x9 h9 => ogM_know h9) rfl rfl rfl rfl rfl (by decide +kernel) (by omega) (by omega) (fun _ _ => rfl) (fun _ _ => rfl) (fun z284 g284 => ?_)
  refine aw_world (ws' := (WA r rq o z254.2.1 z284.2 z254.2.2 sv)) [0, 1, 2, 3, 4, 5, 6, 7, 8, 9, 10, 11, 12, 13, 14, 15, 16, 17, 18, 19, 20, 21, 22, 23, 24, 25, 26, 28, 29, 30, 31, 32, 33, 34, 35, 36, 37, 38, 39, 40, 41, 27] rfl rfl ?_
  refine aw_istore (q := 289) (lv' := [(6, .int z284.1), (5, .int z254.1), (0, .ref b), (1, .ref (r 0)), (2, .ref (rq 0)), (3, .ref o), (4, .int i)]) dL_law_287 rfl (by decide) rfl ?_
  refine aw_goto (tgt := 2084) dL_law_289 (by decide) ?_
  refine aw_iinc (q := 2087) (v := (i + (6 : Int32))) (lv' := [(4, .int (i + (6 : Int32))), (6, .int z284.1), (5, .int z254.1), (0, .ref b), (1, .ref (r 0)), (2, .ref (rq 0)), (3, .ref o)]) dL_law_2084 rfl 6 rfl rfl (by decide) rfl ?_
  refine aw_goto (tgt := 27) dL_law_2087 (by decide) ?_
  refine aw_locals (lv' := [(0, .ref b), (1, .ref (r 0)), (2, .ref (rq 0)), (3, .ref o), (4, .int (i + (6 : Int32)))]) [3, 4, 5, 6, 0] rfl ?_
  refine aw_room (kc' := kc) (ks' := ks) (by omega) (by omega) ?_
  exact hk _ _ _ _ _
def flc_1 (N K L : Nat) (xs : Nat → Int32) (k : Int32 → CS → MS → Int64 → Option Int32) (i : Int32) (S : CS) (M : MS) (nv : Int64) : Option Int32 :=
  (if (i + (1 : Int32)) < 0 ∨ L ≤ (i + (1 : Int32)).toNatClampNeg then none else (if (i + (2 : Int32)) < 0 ∨ L ≤ (i + (2 : Int32)).toNatClampNeg then none else (if (i + (3 : Int32)) < 0 ∨ L ≤ (i + (3 : Int32)).toNatClampNeg then none else ((gL_few N K S (xs (i + (1 : Int32)).toNatClampNeg) (xs (i + (2 : Int32)).toNatClampNeg) (xs (i + (3 : Int32)).toNatClampNeg) nv).bind (fun z312 => (if (i + (1 : Int32)) < 0 ∨ L ≤ (i + (1 : Int32)).toNatClampNeg then none else (if (i + (2 : Int32)) < 0 ∨ L ≤ (i + (2 : Int32)).toNatClampNeg then none else (if (i + (3 : Int32)) < 0 ∨ L ≤ (i + (3 : Int32)).toNatClampNeg then none else ((gM_few N K M (xs (i + (1 : Int32)).toNatClampNeg) (xs (i + (2 : Int32)).toNatClampNeg) (xs (i + (3 : Int32)).toNatClampNeg)).bind (fun z336 => k (i + (6 : Int32)) z312.2.1 z336.2 z312.2.2))))))))))
set_option maxHeartbeats 4000000 in
set_option maxRecDepth 100000 in
theorem tlc_1 {nm : String} {hh : List (Nat × Nat × Nat × Nat)} {N K b L kc ks : Nat} {xs : Nat → Int32} {r rq : Nat → Nat} {o : Nat} {k : Int32 → CS → MS → Int64 → Option Int32} (hk : ∀ (i : Int32) (S : CS) (M : MS) (nv : Int64) (sv : Value), AW RL nm cL_law 7 (some .boolean) hh (XS b L xs) (2 * K + 20) (PZ) kc ks (k i S M nv) 27 [(0, .ref b), (1, .ref (r 0)), (2, .ref (rq 0)), (3, .ref o), (4, .int i)] [] (WA r rq o S M nv sv)) (i : Int32) (S : CS) (M : MS) (nv : Int64) (sv : Value) : AW RL nm cL_law 7 (some .boolean) hh (XS b L xs) (2 * K + 20) (PZ) (kc + 300) (ks + 17000) (flc_1 N K L xs k i S M nv) 292 [(0, .ref b), (1, .ref (r 0)), (2, .ref (rq 0)), (3, .ref o), (4, .int i)] [] (WA r rq o S M nv sv) := by
  unfold flc_1
  refine aw_aload_n (q := 293) dL_law_292 rfl 1 rfl ?_
  refine aw_aload_n (q := 294) dL_law_293 rfl 0 rfl ?_
  refine aw_iload (q := 296) dL_law_294 rfl 4 rfl ?_
  refine aw_iconst (q := 297) (v := 1) dL_law_296 rfl (by decide) ?_
  refine aw_iadd (q := 298) dL_law_297 rfl ?_
  refine aw_sld (q := 299) dL_law_298 rfl ?_
  refine aw_aload_n (q := 300) dL_law_299 rfl 0 rfl ?_
  refine aw_iload (q := 302) dL_law_300 rfl 4 rfl ?_
  refine aw_iconst (q := 303) (v := 2) dL_law_302 rfl (by decide) ?_
  refine aw_iadd (q := 304) dL_law_303 rfl ?_
  refine aw_sld (q := 305) dL_law_304 rfl ?_
  refine aw_aload_n (q := 306) dL_law_305 rfl 0 rfl ?_
  refine aw_iload (q := 308) dL_law_306 rfl 4 rfl ?_
  refine aw_iconst (q := 309) (v := 3) dL_law_308 rfl (by decide) ?_
  refine aw_iadd (q := 310) dL_law_309 rfl ?_
  refine aw_sld (q := 311) dL_law_310 rfl ?_
  refine aw_aload_n (q := 312) dL_law_311 rfl 3 rfl ?_
  refine aw_call (q := 315) (kc1 := kc + 297) (ks1 := ks + 16982) (wc := WX r S ++ [OC o nv sv]) (wr := WM rq M) (st1 := fun z312 g312 => [.int z312.1]) (ws1 := fun z312 g312 => WM rq M ++ (WX r z312.2.1 ++ [OC o z312.2.2 sv])) (As := [.ref (r 0), .int (xs (i + (1 : Int32)).toNatClampNeg), .int (xs (i + (2 : Int32)).toNatClampNeg), .int (xs (i + (3 : Int32)).toNatClampNeg), .ref o]) [0, 1, 2, 3, 4, 5, 6, 7, 8, 9, 10, 11, 12, 13, 14, 15, 16, 17, 18, 19, 20, 21, 22, 23, 24, 25, 26, 41] [27, 28, 29, 30, 31, 32, 33, 34, 35, 36, 37, 38, 39, 40] (fun _ => runSX dL_law_312 mix_L_few st_L_few ml_L_161 (by omega) rfl (Nat.le_of_ble_eq_true rfl) rfl) (fun x9 h9 => ogL_few h9) rfl rfl rfl rfl rfl (by decide +kernel) (by omega) (by omega) (fun _ _ => rfl) (fun _ _ => rfl) (fun z312 g312 => ?_)
  refine aw_world (ws' := (WA r rq o z312.2.1 M z312.2.2 sv)) [14, 15, 16, 17, 18, 19, 20, 21, 22, 23, 24, 25, 26, 27, 28, 29, 30, 31, 32, 33, 34, 35, 36, 37, 38, 39, 40, 0, 1, 2, 3, 4, 5, 6, 7, 8, 9, 10, 11, 12, 13, 41] rfl rfl ?_
  refine aw_istore (q := 317) (lv' := [(5, .int z312.1), (0, .ref b), (1, .ref (r 0)), (2, .ref (rq 0)), (3, .ref o), (4, .int i)]) dL_law_315 rfl (by decide) rfl ?_
  refine aw_aload_n (q := 318) dL_law_317 rfl 3 rfl ?_
  refine aw_aload_n (q := 319) dL_law_318 rfl 1 rfl ?_
  refine aw_iload (q := 321) dL_law_319 rfl 5 rfl ?_
  refine aw_iconst (q := 322) (v := 1) dL_law_321 rfl (by decide) ?_
  refine aw_iadd (q := 323) dL_law_322 rfl ?_
  refine aw_sld (q := 324) dL_law_323 rfl ?_
  refine aw_aload_n (q := 325) dL_law_324 rfl 1 rfl ?_
  refine aw_iload (q := 327) dL_law_325 rfl 5 rfl ?_
  refine aw_iconst (q := 328) (v := 2) dL_law_327 rfl (by decide) ?_
  refine aw_iadd (q := 329) dL_law_328 rfl ?_
  refine aw_sld (q := 330) dL_law_329 rfl ?_
  refine aw_aload_n (q := 331) dL_law_330 rfl 1 rfl ?_
  refine aw_iload (q := 333) dL_law_331 rfl 5 rfl ?_
  refine aw_iconst (q := 334) (v := 3) dL_law_333 rfl (by decide) ?_
  refine aw_iadd (q := 335) dL_law_334 rfl ?_
  refine aw_sld (q := 336) dL_law_335 rfl ?_
  refine aw_call (q := 339) (kc1 := kc + 297) (ks1 := ks + 16982) (wc := WM rq M) (wr := WX r z312.2.1 ++ [OC o z312.2.2 sv]) (st1 := fun z336 g336 => [.int z336.1]) (ws1 := fun z336 g336 => (WX r z312.2.1 ++ [OC o z312.2.2 sv]) ++ WM rq z336.2) (As := [.ref (rq 0), .int (xs (i + (1 : Int32)).toNatClampNeg), .int (xs (i + (2 : Int32)).toNatClampNeg), .int (xs (i + (3 : Int32)).toNatClampNeg)]) [27, 28, 29, 30, 31, 32, 33, 34, 35, 36, 37, 38, 39, 40] [0, 1, 2, 3, 4, 5, 6, 7, 8, 9, 10, 11, 12, 13, 14, 15, 16, 17, 18, 19, 20, 21, 22, 23, 24, 25, 26, 41] (fun _ => runV (q0 := 27) dL_law_336 mi_X7_few im_X7_few se_X7_few ml_L_164 (by omega) rfl (Nat.le_of_ble_eq_true rfl) rfl rfl rfl rfl) (fun x9 h9 => ogM_few h9) rfl rfl rfl rfl rfl (by decide +kernel) (by omega) (by omega) (fun _ _ => rfl) (fun _ _ => rfl) (fun z336 g336 => ?_)
  refine aw_world (ws' := (WA r rq o z312.2.1 z336.2 z312.2.2 sv)) [0, 1, 2, 3, 4, 5, 6, 7, 8, 9, 10, 11, 12, 13, 14, 15, 16, 17, 18, 19, 20, 21, 22, 23, 24, 25, 26, 28, 29, 30, 31, 32, 33, 34, 35, 36, 37, 38, 39, 40, 41, 27] rfl rfl ?_
  refine aw_istore (q := 341) (lv' := [(6, .int z336.1), (5, .int z312.1), (0, .ref b), (1, .ref (r 0)), (2, .ref (rq 0)), (3, .ref o), (4, .int i)]) dL_law_339 rfl (by decide) rfl ?_
  refine aw_goto (tgt := 2084) dL_law_341 (by decide) ?_
  refine aw_iinc (q := 2087) (v := (i + (6 : Int32))) (lv' := [(4, .int (i + (6 : Int32))), (6, .int z336.1), (5, .int z312.1), (0, .ref b), (1, .ref (r 0)), (2, .ref (rq 0)), (3, .ref o)]) dL_law_2084 rfl 6 rfl rfl (by decide) rfl ?_
  refine aw_goto (tgt := 27) dL_law_2087 (by decide) ?_
  refine aw_locals (lv' := [(0, .ref b), (1, .ref (r 0)), (2, .ref (rq 0)), (3, .ref o), (4, .int (i + (6 : Int32)))]) [3, 4, 5, 6, 0] rfl ?_
  refine aw_room (kc' := kc) (ks' := ks) (by omega) (by omega) ?_
  exact hk _ _ _ _ _
def flc_2 (N K L : Nat) (xs : Nat → Int32) (k : Int32 → CS → MS → Int64 → Option Int32) (i : Int32) (S : CS) (M : MS) (nv : Int64) : Option Int32 :=
  (if (i + (1 : Int32)) < 0 ∨ L ≤ (i + (1 : Int32)).toNatClampNeg then none else (if (i + (2 : Int32)) < 0 ∨ L ≤ (i + (2 : Int32)).toNatClampNeg then none else ((gL_surplus N K S (xs (i + (1 : Int32)).toNatClampNeg) (xs (i + (2 : Int32)).toNatClampNeg) nv).bind (fun z358 => (if (i + (1 : Int32)) < 0 ∨ L ≤ (i + (1 : Int32)).toNatClampNeg then none else (if (i + (2 : Int32)) < 0 ∨ L ≤ (i + (2 : Int32)).toNatClampNeg then none else ((gM_surplus N K M (xs (i + (1 : Int32)).toNatClampNeg) (xs (i + (2 : Int32)).toNatClampNeg)).bind (fun z376 => k (i + (6 : Int32)) z358.2.1 z376.2 z358.2.2))))))))
set_option maxHeartbeats 4000000 in
set_option maxRecDepth 100000 in
theorem tlc_2 {nm : String} {hh : List (Nat × Nat × Nat × Nat)} {N K b L kc ks : Nat} {xs : Nat → Int32} {r rq : Nat → Nat} {o : Nat} {k : Int32 → CS → MS → Int64 → Option Int32} (hk : ∀ (i : Int32) (S : CS) (M : MS) (nv : Int64) (sv : Value), AW RL nm cL_law 7 (some .boolean) hh (XS b L xs) (2 * K + 20) (PZ) kc ks (k i S M nv) 27 [(0, .ref b), (1, .ref (r 0)), (2, .ref (rq 0)), (3, .ref o), (4, .int i)] [] (WA r rq o S M nv sv)) (i : Int32) (S : CS) (M : MS) (nv : Int64) (sv : Value) : AW RL nm cL_law 7 (some .boolean) hh (XS b L xs) (2 * K + 20) (PZ) (kc + 300) (ks + 17000) (flc_2 N K L xs k i S M nv) 344 [(0, .ref b), (1, .ref (r 0)), (2, .ref (rq 0)), (3, .ref o), (4, .int i)] [] (WA r rq o S M nv sv) := by
  unfold flc_2
  refine aw_aload_n (q := 345) dL_law_344 rfl 1 rfl ?_
  refine aw_aload_n (q := 346) dL_law_345 rfl 0 rfl ?_
  refine aw_iload (q := 348) dL_law_346 rfl 4 rfl ?_
  refine aw_iconst (q := 349) (v := 1) dL_law_348 rfl (by decide) ?_
  refine aw_iadd (q := 350) dL_law_349 rfl ?_
  refine aw_sld (q := 351) dL_law_350 rfl ?_
  refine aw_aload_n (q := 352) dL_law_351 rfl 0 rfl ?_
  refine aw_iload (q := 354) dL_law_352 rfl 4 rfl ?_
  refine aw_iconst (q := 355) (v := 2) dL_law_354 rfl (by decide) ?_
  refine aw_iadd (q := 356) dL_law_355 rfl ?_
  refine aw_sld (q := 357) dL_law_356 rfl ?_
  refine aw_aload_n (q := 358) dL_law_357 rfl 3 rfl ?_
  refine aw_call (q := 361) (kc1 := kc + 298) (ks1 := ks + 16988) (wc := WX r S ++ [OC o nv sv]) (wr := WM rq M) (st1 := fun z358 g358 => [.int z358.1]) (ws1 := fun z358 g358 => WM rq M ++ (WX r z358.2.1 ++ [OC o z358.2.2 sv])) (As := [.ref (r 0), .int (xs (i + (1 : Int32)).toNatClampNeg), .int (xs (i + (2 : Int32)).toNatClampNeg), .ref o]) [0, 1, 2, 3, 4, 5, 6, 7, 8, 9, 10, 11, 12, 13, 14, 15, 16, 17, 18, 19, 20, 21, 22, 23, 24, 25, 26, 41] [27, 28, 29, 30, 31, 32, 33, 34, 35, 36, 37, 38, 39, 40] (fun _ => runSX dL_law_358 mix_L_surplus st_L_surplus ml_L_165 (by omega) rfl (Nat.le_of_ble_eq_true rfl) rfl) (fun x9 h9 => ogL_surplus h9) rfl rfl rfl rfl rfl (by decide +kernel) (by omega) (by omega) (fun _ _ => rfl) (fun _ _ => rfl) (fun z358 g358 => ?_)
  refine aw_world (ws' := (WA r rq o z358.2.1 M z358.2.2 sv)) [14, 15, 16, 17, 18, 19, 20, 21, 22, 23, 24, 25, 26, 27, 28, 29, 30, 31, 32, 33, 34, 35, 36, 37, 38, 39, 40, 0, 1, 2, 3, 4, 5, 6, 7, 8, 9, 10, 11, 12, 13, 41] rfl rfl ?_
  refine aw_istore (q := 363) (lv' := [(5, .int z358.1), (0, .ref b), (1, .ref (r 0)), (2, .ref (rq 0)), (3, .ref o), (4, .int i)]) dL_law_361 rfl (by decide) rfl ?_
  refine aw_aload_n (q := 364) dL_law_363 rfl 3 rfl ?_
  refine aw_aload_n (q := 365) dL_law_364 rfl 1 rfl ?_
  refine aw_iload (q := 367) dL_law_365 rfl 5 rfl ?_
  refine aw_iconst (q := 368) (v := 1) dL_law_367 rfl (by decide) ?_
  refine aw_iadd (q := 369) dL_law_368 rfl ?_
  refine aw_sld (q := 370) dL_law_369 rfl ?_
  refine aw_aload_n (q := 371) dL_law_370 rfl 1 rfl ?_
  refine aw_iload (q := 373) dL_law_371 rfl 5 rfl ?_
  refine aw_iconst (q := 374) (v := 2) dL_law_373 rfl (by decide) ?_
  refine aw_iadd (q := 375) dL_law_374 rfl ?_
  refine aw_sld (q := 376) dL_law_375 rfl ?_
  refine aw_call (q := 379) (kc1 := kc + 298) (ks1 := ks + 16988) (wc := WM rq M) (wr := WX r z358.2.1 ++ [OC o z358.2.2 sv]) (st1 := fun z376 g376 => [.int z376.1]) (ws1 := fun z376 g376 => (WX r z358.2.1 ++ [OC o z358.2.2 sv]) ++ WM rq z376.2) (As := [.ref (rq 0), .int (xs (i + (1 : Int32)).toNatClampNeg), .int (xs (i + (2 : Int32)).toNatClampNeg)]) [27, 28, 29, 30, 31, 32, 33, 34, 35, 36, 37, 38, 39, 40] [0, 1, 2, 3, 4, 5, 6, 7, 8, 9, 10, 11, 12, 13, 14, 15, 16, 17, 18, 19, 20, 21, 22, 23, 24, 25, 26, 41] (fun _ => runV (q0 := 27) dL_law_376 mi_X7_surplus im_X7_surplus se_X7_surplus ml_L_168 (by omega) rfl (Nat.le_of_ble_eq_true rfl) rfl rfl rfl rfl) (fun x9 h9 => ogM_surplus h9) rfl rfl rfl rfl rfl (by decide +kernel) (by omega) (by omega) (fun _ _ => rfl) (fun _ _ => rfl) (fun z376 g376 => ?_)
  refine aw_world (ws' := (WA r rq o z358.2.1 z376.2 z358.2.2 sv)) [0, 1, 2, 3, 4, 5, 6, 7, 8, 9, 10, 11, 12, 13, 14, 15, 16, 17, 18, 19, 20, 21, 22, 23, 24, 25, 26, 28, 29, 30, 31, 32, 33, 34, 35, 36, 37, 38, 39, 40, 41, 27] rfl rfl ?_
  refine aw_istore (q := 381) (lv' := [(6, .int z376.1), (5, .int z358.1), (0, .ref b), (1, .ref (r 0)), (2, .ref (rq 0)), (3, .ref o), (4, .int i)]) dL_law_379 rfl (by decide) rfl ?_
  refine aw_goto (tgt := 2084) dL_law_381 (by decide) ?_
  refine aw_iinc (q := 2087) (v := (i + (6 : Int32))) (lv' := [(4, .int (i + (6 : Int32))), (6, .int z376.1), (5, .int z358.1), (0, .ref b), (1, .ref (r 0)), (2, .ref (rq 0)), (3, .ref o)]) dL_law_2084 rfl 6 rfl rfl (by decide) rfl ?_
  refine aw_goto (tgt := 27) dL_law_2087 (by decide) ?_
  refine aw_locals (lv' := [(0, .ref b), (1, .ref (r 0)), (2, .ref (rq 0)), (3, .ref o), (4, .int (i + (6 : Int32)))]) [3, 4, 5, 6, 0] rfl ?_
  refine aw_room (kc' := kc) (ks' := ks) (by omega) (by omega) ?_
  exact hk _ _ _ _ _
def flc_3 (N K L : Nat) (xs : Nat → Int32) (k : Int32 → CS → MS → Int64 → Option Int32) (i : Int32) (S : CS) (M : MS) (nv : Int64) : Option Int32 :=
  (if (i + (1 : Int32)) < 0 ∨ L ≤ (i + (1 : Int32)).toNatClampNeg then none else (if (i + (2 : Int32)) < 0 ∨ L ≤ (i + (2 : Int32)).toNatClampNeg then none else ((gL_place N K S (xs (i + (1 : Int32)).toNatClampNeg) (xs (i + (2 : Int32)).toNatClampNeg) nv).bind (fun z398 => (if (i + (1 : Int32)) < 0 ∨ L ≤ (i + (1 : Int32)).toNatClampNeg then none else (if (i + (2 : Int32)) < 0 ∨ L ≤ (i + (2 : Int32)).toNatClampNeg then none else ((gM_place N K M (xs (i + (1 : Int32)).toNatClampNeg) (xs (i + (2 : Int32)).toNatClampNeg)).bind (fun z416 => k (i + (6 : Int32)) z398.2.1 z416.2 z398.2.2))))))))
set_option maxHeartbeats 4000000 in
set_option maxRecDepth 100000 in
theorem tlc_3 {nm : String} {hh : List (Nat × Nat × Nat × Nat)} {N K b L kc ks : Nat} {xs : Nat → Int32} {r rq : Nat → Nat} {o : Nat} {k : Int32 → CS → MS → Int64 → Option Int32} (hk : ∀ (i : Int32) (S : CS) (M : MS) (nv : Int64) (sv : Value), AW RL nm cL_law 7 (some .boolean) hh (XS b L xs) (2 * K + 20) (PZ) kc ks (k i S M nv) 27 [(0, .ref b), (1, .ref (r 0)), (2, .ref (rq 0)), (3, .ref o), (4, .int i)] [] (WA r rq o S M nv sv)) (i : Int32) (S : CS) (M : MS) (nv : Int64) (sv : Value) : AW RL nm cL_law 7 (some .boolean) hh (XS b L xs) (2 * K + 20) (PZ) (kc + 300) (ks + 17000) (flc_3 N K L xs k i S M nv) 384 [(0, .ref b), (1, .ref (r 0)), (2, .ref (rq 0)), (3, .ref o), (4, .int i)] [] (WA r rq o S M nv sv) := by
  unfold flc_3
  refine aw_aload_n (q := 385) dL_law_384 rfl 1 rfl ?_
  refine aw_aload_n (q := 386) dL_law_385 rfl 0 rfl ?_
  refine aw_iload (q := 388) dL_law_386 rfl 4 rfl ?_
  refine aw_iconst (q := 389) (v := 1) dL_law_388 rfl (by decide) ?_
  refine aw_iadd (q := 390) dL_law_389 rfl ?_
  refine aw_sld (q := 391) dL_law_390 rfl ?_
  refine aw_aload_n (q := 392) dL_law_391 rfl 0 rfl ?_
  refine aw_iload (q := 394) dL_law_392 rfl 4 rfl ?_
  refine aw_iconst (q := 395) (v := 2) dL_law_394 rfl (by decide) ?_
  refine aw_iadd (q := 396) dL_law_395 rfl ?_
  refine aw_sld (q := 397) dL_law_396 rfl ?_
  refine aw_aload_n (q := 398) dL_law_397 rfl 3 rfl ?_
  refine aw_call (q := 401) (kc1 := kc + 298) (ks1 := ks + 16988) (wc := WX r S ++ [OC o nv sv]) (wr := WM rq M) (st1 := fun z398 g398 => [.int z398.1]) (ws1 := fun z398 g398 => WM rq M ++ (WX r z398.2.1 ++ [OC o z398.2.2 sv])) (As := [.ref (r 0), .int (xs (i + (1 : Int32)).toNatClampNeg), .int (xs (i + (2 : Int32)).toNatClampNeg), .ref o]) [0, 1, 2, 3, 4, 5, 6, 7, 8, 9, 10, 11, 12, 13, 14, 15, 16, 17, 18, 19, 20, 21, 22, 23, 24, 25, 26, 41] [27, 28, 29, 30, 31, 32, 33, 34, 35, 36, 37, 38, 39, 40] (fun _ => runSX dL_law_398 mix_L_place st_L_place ml_L_169 (by omega) rfl (Nat.le_of_ble_eq_true rfl) rfl) (fun x9 h9 => ogL_place h9) rfl rfl rfl rfl rfl (by decide +kernel) (by omega) (by omega) (fun _ _ => rfl) (fun _ _ => rfl) (fun z398 g398 => ?_)
  refine aw_world (ws' := (WA r rq o z398.2.1 M z398.2.2 sv)) [14, 15, 16, 17, 18, 19, 20, 21, 22, 23, 24, 25, 26, 27, 28, 29, 30, 31, 32, 33, 34, 35, 36, 37, 38, 39, 40, 0, 1, 2, 3, 4, 5, 6, 7, 8, 9, 10, 11, 12, 13, 41] rfl rfl ?_
  refine aw_istore (q := 403) (lv' := [(5, .int z398.1), (0, .ref b), (1, .ref (r 0)), (2, .ref (rq 0)), (3, .ref o), (4, .int i)]) dL_law_401 rfl (by decide) rfl ?_
  refine aw_aload_n (q := 404) dL_law_403 rfl 3 rfl ?_
  refine aw_aload_n (q := 405) dL_law_404 rfl 1 rfl ?_
  refine aw_iload (q := 407) dL_law_405 rfl 5 rfl ?_
  refine aw_iconst (q := 408) (v := 1) dL_law_407 rfl (by decide) ?_
  refine aw_iadd (q := 409) dL_law_408 rfl ?_
  refine aw_sld (q := 410) dL_law_409 rfl ?_
  refine aw_aload_n (q := 411) dL_law_410 rfl 1 rfl ?_
  refine aw_iload (q := 413) dL_law_411 rfl 5 rfl ?_
  refine aw_iconst (q := 414) (v := 2) dL_law_413 rfl (by decide) ?_
  refine aw_iadd (q := 415) dL_law_414 rfl ?_
  refine aw_sld (q := 416) dL_law_415 rfl ?_
  refine aw_call (q := 419) (kc1 := kc + 298) (ks1 := ks + 16988) (wc := WM rq M) (wr := WX r z398.2.1 ++ [OC o z398.2.2 sv]) (st1 := fun z416 g416 => [.int z416.1]) (ws1 := fun z416 g416 => (WX r z398.2.1 ++ [OC o z398.2.2 sv]) ++ WM rq z416.2) (As := [.ref (rq 0), .int (xs (i + (1 : Int32)).toNatClampNeg), .int (xs (i + (2 : Int32)).toNatClampNeg)]) [27, 28, 29, 30, 31, 32, 33, 34, 35, 36, 37, 38, 39, 40] [0, 1, 2, 3, 4, 5, 6, 7, 8, 9, 10, 11, 12, 13, 14, 15, 16, 17, 18, 19, 20, 21, 22, 23, 24, 25, 26, 41] (fun _ => runV (q0 := 27) dL_law_416 mi_X7_place im_X7_place se_X7_place ml_L_171 (by omega) rfl (Nat.le_of_ble_eq_true rfl) rfl rfl rfl rfl) (fun x9 h9 => ogM_place h9) rfl rfl rfl rfl rfl (by decide +kernel) (by omega) (by omega) (fun _ _ => rfl) (fun _ _ => rfl) (fun z416 g416 => ?_)
  refine aw_world (ws' := (WA r rq o z398.2.1 z416.2 z398.2.2 sv)) [0, 1, 2, 3, 4, 5, 6, 7, 8, 9, 10, 11, 12, 13, 14, 15, 16, 17, 18, 19, 20, 21, 22, 23, 24, 25, 26, 28, 29, 30, 31, 32, 33, 34, 35, 36, 37, 38, 39, 40, 41, 27] rfl rfl ?_
  refine aw_istore (q := 421) (lv' := [(6, .int z416.1), (5, .int z398.1), (0, .ref b), (1, .ref (r 0)), (2, .ref (rq 0)), (3, .ref o), (4, .int i)]) dL_law_419 rfl (by decide) rfl ?_
  refine aw_goto (tgt := 2084) dL_law_421 (by decide) ?_
  refine aw_iinc (q := 2087) (v := (i + (6 : Int32))) (lv' := [(4, .int (i + (6 : Int32))), (6, .int z416.1), (5, .int z398.1), (0, .ref b), (1, .ref (r 0)), (2, .ref (rq 0)), (3, .ref o)]) dL_law_2084 rfl 6 rfl rfl (by decide) rfl ?_
  refine aw_goto (tgt := 27) dL_law_2087 (by decide) ?_
  refine aw_locals (lv' := [(0, .ref b), (1, .ref (r 0)), (2, .ref (rq 0)), (3, .ref o), (4, .int (i + (6 : Int32)))]) [3, 4, 5, 6, 0] rfl ?_
  refine aw_room (kc' := kc) (ks' := ks) (by omega) (by omega) ?_
  exact hk _ _ _ _ _
def flc_4 (N K L : Nat) (xs : Nat → Int32) (k : Int32 → CS → MS → Int64 → Option Int32) (i : Int32) (S : CS) (M : MS) (nv : Int64) : Option Int32 :=
  (if (i + (1 : Int32)) < 0 ∨ L ≤ (i + (1 : Int32)).toNatClampNeg then none else (if (i + (2 : Int32)) < 0 ∨ L ≤ (i + (2 : Int32)).toNatClampNeg then none else (if (i + (3 : Int32)) < 0 ∨ L ≤ (i + (3 : Int32)).toNatClampNeg then none else (if (i + (4 : Int32)) < 0 ∨ L ≤ (i + (4 : Int32)).toNatClampNeg then none else ((gL_learn N K S (xs (i + (1 : Int32)).toNatClampNeg) (xs (i + (2 : Int32)).toNatClampNeg) (xs (i + (3 : Int32)).toNatClampNeg) (xs (i + (4 : Int32)).toNatClampNeg) nv).bind (fun z450 => (if (i + (1 : Int32)) < 0 ∨ L ≤ (i + (1 : Int32)).toNatClampNeg then none else (if (i + (2 : Int32)) < 0 ∨ L ≤ (i + (2 : Int32)).toNatClampNeg then none else (if (i + (3 : Int32)) < 0 ∨ L ≤ (i + (3 : Int32)).toNatClampNeg then none else (if (i + (4 : Int32)) < 0 ∨ L ≤ (i + (4 : Int32)).toNatClampNeg then none else ((gM_learn N K M (xs (i + (1 : Int32)).toNatClampNeg) (xs (i + (2 : Int32)).toNatClampNeg) (xs (i + (3 : Int32)).toNatClampNeg) (xs (i + (4 : Int32)).toNatClampNeg)).bind (fun z480 => k (i + (6 : Int32)) z450.2.1 z480.2 z450.2.2))))))))))))
set_option maxHeartbeats 4000000 in
set_option maxRecDepth 100000 in
theorem tlc_4 {nm : String} {hh : List (Nat × Nat × Nat × Nat)} {N K b L kc ks : Nat} {xs : Nat → Int32} {r rq : Nat → Nat} {o : Nat} {k : Int32 → CS → MS → Int64 → Option Int32} (hk : ∀ (i : Int32) (S : CS) (M : MS) (nv : Int64) (sv : Value), AW RL nm cL_law 7 (some .boolean) hh (XS b L xs) (2 * K + 20) (PZ) kc ks (k i S M nv) 27 [(0, .ref b), (1, .ref (r 0)), (2, .ref (rq 0)), (3, .ref o), (4, .int i)] [] (WA r rq o S M nv sv)) (i : Int32) (S : CS) (M : MS) (nv : Int64) (sv : Value) : AW RL nm cL_law 7 (some .boolean) hh (XS b L xs) (2 * K + 20) (PZ) (kc + 300) (ks + 17000) (flc_4 N K L xs k i S M nv) 424 [(0, .ref b), (1, .ref (r 0)), (2, .ref (rq 0)), (3, .ref o), (4, .int i)] [] (WA r rq o S M nv sv) := by
  unfold flc_4
  refine aw_aload_n (q := 425) dL_law_424 rfl 1 rfl ?_
  refine aw_aload_n (q := 426) dL_law_425 rfl 0 rfl ?_
  refine aw_iload (q := 428) dL_law_426 rfl 4 rfl ?_
  refine aw_iconst (q := 429) (v := 1) dL_law_428 rfl (by decide) ?_
  refine aw_iadd (q := 430) dL_law_429 rfl ?_
  refine aw_sld (q := 431) dL_law_430 rfl ?_
  refine aw_aload_n (q := 432) dL_law_431 rfl 0 rfl ?_
  refine aw_iload (q := 434) dL_law_432 rfl 4 rfl ?_
  refine aw_iconst (q := 435) (v := 2) dL_law_434 rfl (by decide) ?_
  refine aw_iadd (q := 436) dL_law_435 rfl ?_
  refine aw_sld (q := 437) dL_law_436 rfl ?_
  refine aw_aload_n (q := 438) dL_law_437 rfl 0 rfl ?_
  refine aw_iload (q := 440) dL_law_438 rfl 4 rfl ?_
  refine aw_iconst (q := 441) (v := 3) dL_law_440 rfl (by decide) ?_
  refine aw_iadd (q := 442) dL_law_441 rfl ?_
  refine aw_sld (q := 443) dL_law_442 rfl ?_
  refine aw_aload_n (q := 444) dL_law_443 rfl 0 rfl ?_
  refine aw_iload (q := 446) dL_law_444 rfl 4 rfl ?_
  refine aw_iconst (q := 447) (v := 4) dL_law_446 rfl (by decide) ?_
  refine aw_iadd (q := 448) dL_law_447 rfl ?_
  refine aw_sld (q := 449) dL_law_448 rfl ?_
  refine aw_aload_n (q := 450) dL_law_449 rfl 3 rfl ?_
  refine aw_call (q := 453) (kc1 := kc + 296) (ks1 := ks + 16976) (wc := WX r S ++ [OC o nv sv]) (wr := WM rq M) (st1 := fun z450 g450 => [.int z450.1]) (ws1 := fun z450 g450 => WM rq M ++ (WX r z450.2.1 ++ [OC o z450.2.2 sv])) (As := [.ref (r 0), .int (xs (i + (1 : Int32)).toNatClampNeg), .int (xs (i + (2 : Int32)).toNatClampNeg), .int (xs (i + (3 : Int32)).toNatClampNeg), .int (xs (i + (4 : Int32)).toNatClampNeg), .ref o]) [0, 1, 2, 3, 4, 5, 6, 7, 8, 9, 10, 11, 12, 13, 14, 15, 16, 17, 18, 19, 20, 21, 22, 23, 24, 25, 26, 41] [27, 28, 29, 30, 31, 32, 33, 34, 35, 36, 37, 38, 39, 40] (fun _ => runSX dL_law_450 mix_L_learn st_L_learn ml_L_172 (by omega) rfl (Nat.le_of_ble_eq_true rfl) rfl) (fun x9 h9 => ogL_learn h9) rfl rfl rfl rfl rfl (by decide +kernel) (by omega) (by omega) (fun _ _ => rfl) (fun _ _ => rfl) (fun z450 g450 => ?_)
  refine aw_world (ws' := (WA r rq o z450.2.1 M z450.2.2 sv)) [14, 15, 16, 17, 18, 19, 20, 21, 22, 23, 24, 25, 26, 27, 28, 29, 30, 31, 32, 33, 34, 35, 36, 37, 38, 39, 40, 0, 1, 2, 3, 4, 5, 6, 7, 8, 9, 10, 11, 12, 13, 41] rfl rfl ?_
  refine aw_istore (q := 455) (lv' := [(5, .int z450.1), (0, .ref b), (1, .ref (r 0)), (2, .ref (rq 0)), (3, .ref o), (4, .int i)]) dL_law_453 rfl (by decide) rfl ?_
  refine aw_aload_n (q := 456) dL_law_455 rfl 3 rfl ?_
  refine aw_aload_n (q := 457) dL_law_456 rfl 1 rfl ?_
  refine aw_iload (q := 459) dL_law_457 rfl 5 rfl ?_
  refine aw_iconst (q := 460) (v := 1) dL_law_459 rfl (by decide) ?_
  refine aw_iadd (q := 461) dL_law_460 rfl ?_
  refine aw_sld (q := 462) dL_law_461 rfl ?_
  refine aw_aload_n (q := 463) dL_law_462 rfl 1 rfl ?_
  refine aw_iload (q := 465) dL_law_463 rfl 5 rfl ?_
  refine aw_iconst (q := 466) (v := 2) dL_law_465 rfl (by decide) ?_
  refine aw_iadd (q := 467) dL_law_466 rfl ?_
  refine aw_sld (q := 468) dL_law_467 rfl ?_
  refine aw_aload_n (q := 469) dL_law_468 rfl 1 rfl ?_
  refine aw_iload (q := 471) dL_law_469 rfl 5 rfl ?_
  refine aw_iconst (q := 472) (v := 3) dL_law_471 rfl (by decide) ?_
  refine aw_iadd (q := 473) dL_law_472 rfl ?_
  refine aw_sld (q := 474) dL_law_473 rfl ?_
  refine aw_aload_n (q := 475) dL_law_474 rfl 1 rfl ?_
  refine aw_iload (q := 477) dL_law_475 rfl 5 rfl ?_
  refine aw_iconst (q := 478) (v := 4) dL_law_477 rfl (by decide) ?_
  refine aw_iadd (q := 479) dL_law_478 rfl ?_
  refine aw_sld (q := 480) dL_law_479 rfl ?_
  refine aw_call (q := 483) (kc1 := kc + 295) (ks1 := ks + 16955) (wc := WM rq M) (wr := WX r z450.2.1 ++ [OC o z450.2.2 sv]) (st1 := fun z480 g480 => [.int z480.1]) (ws1 := fun z480 g480 => (WX r z450.2.1 ++ [OC o z450.2.2 sv]) ++ WM rq z480.2) (As := [.ref (rq 0), .int (xs (i + (1 : Int32)).toNatClampNeg), .int (xs (i + (2 : Int32)).toNatClampNeg), .int (xs (i + (3 : Int32)).toNatClampNeg), .int (xs (i + (4 : Int32)).toNatClampNeg)]) [27, 28, 29, 30, 31, 32, 33, 34, 35, 36, 37, 38, 39, 40] [0, 1, 2, 3, 4, 5, 6, 7, 8, 9, 10, 11, 12, 13, 14, 15, 16, 17, 18, 19, 20, 21, 22, 23, 24, 25, 26, 41] (fun _ => runV (q0 := 27) dL_law_480 mi_X7_learn im_X7_learn se_X7_learn ml_L_174 (by omega) rfl (Nat.le_of_ble_eq_true rfl) rfl rfl rfl rfl) (fun x9 h9 => ogM_learn h9) rfl rfl rfl rfl rfl (by decide +kernel) (by omega) (by omega) (fun _ _ => rfl) (fun _ _ => rfl) (fun z480 g480 => ?_)
  refine aw_world (ws' := (WA r rq o z450.2.1 z480.2 z450.2.2 sv)) [0, 1, 2, 3, 4, 5, 6, 7, 8, 9, 10, 11, 12, 13, 14, 15, 16, 17, 18, 19, 20, 21, 22, 23, 24, 25, 26, 28, 29, 30, 31, 32, 33, 34, 35, 36, 37, 38, 39, 40, 41, 27] rfl rfl ?_
  refine aw_istore (q := 485) (lv' := [(6, .int z480.1), (5, .int z450.1), (0, .ref b), (1, .ref (r 0)), (2, .ref (rq 0)), (3, .ref o), (4, .int i)]) dL_law_483 rfl (by decide) rfl ?_
  refine aw_goto (tgt := 2084) dL_law_485 (by decide) ?_
  refine aw_iinc (q := 2087) (v := (i + (6 : Int32))) (lv' := [(4, .int (i + (6 : Int32))), (6, .int z480.1), (5, .int z450.1), (0, .ref b), (1, .ref (r 0)), (2, .ref (rq 0)), (3, .ref o)]) dL_law_2084 rfl 6 rfl rfl (by decide) rfl ?_
  refine aw_goto (tgt := 27) dL_law_2087 (by decide) ?_
  refine aw_locals (lv' := [(0, .ref b), (1, .ref (r 0)), (2, .ref (rq 0)), (3, .ref o), (4, .int (i + (6 : Int32)))]) [3, 4, 5, 6, 0] rfl ?_
  refine aw_room (kc' := kc) (ks' := ks) (by omega) (by omega) ?_
  exact hk _ _ _ _ _
def flc_5 (N K L : Nat) (xs : Nat → Int32) (k : Int32 → CS → MS → Int64 → Option Int32) (i : Int32) (S : CS) (M : MS) (nv : Int64) : Option Int32 :=
  (if (i + (1 : Int32)) < 0 ∨ L ≤ (i + (1 : Int32)).toNatClampNeg then none else (if (i + (2 : Int32)) < 0 ∨ L ≤ (i + (2 : Int32)).toNatClampNeg then none else (if (i + (3 : Int32)) < 0 ∨ L ≤ (i + (3 : Int32)).toNatClampNeg then none else (if (i + (4 : Int32)) < 0 ∨ L ≤ (i + (4 : Int32)).toNatClampNeg then none else ((gL_relearn N K S (xs (i + (1 : Int32)).toNatClampNeg) (xs (i + (2 : Int32)).toNatClampNeg) (xs (i + (3 : Int32)).toNatClampNeg) (xs (i + (4 : Int32)).toNatClampNeg) nv).bind (fun z514 => (if (i + (1 : Int32)) < 0 ∨ L ≤ (i + (1 : Int32)).toNatClampNeg then none else (if (i + (2 : Int32)) < 0 ∨ L ≤ (i + (2 : Int32)).toNatClampNeg then none else (if (i + (3 : Int32)) < 0 ∨ L ≤ (i + (3 : Int32)).toNatClampNeg then none else (if (i + (4 : Int32)) < 0 ∨ L ≤ (i + (4 : Int32)).toNatClampNeg then none else ((gM_relearn N K M (xs (i + (1 : Int32)).toNatClampNeg) (xs (i + (2 : Int32)).toNatClampNeg) (xs (i + (3 : Int32)).toNatClampNeg) (xs (i + (4 : Int32)).toNatClampNeg)).bind (fun z544 => k (i + (6 : Int32)) z514.2.1 z544.2 z514.2.2))))))))))))
set_option maxHeartbeats 4000000 in
set_option maxRecDepth 100000 in
theorem tlc_5 {nm : String} {hh : List (Nat × Nat × Nat × Nat)} {N K b L kc ks : Nat} {xs : Nat → Int32} {r rq : Nat → Nat} {o : Nat} {k : Int32 → CS → MS → Int64 → Option Int32} (hk : ∀ (i : Int32) (S : CS) (M : MS) (nv : Int64) (sv : Value), AW RL nm cL_law 7 (some .boolean) hh (XS b L xs) (2 * K + 20) (PZ) kc ks (k i S M nv) 27 [(0, .ref b), (1, .ref (r 0)), (2, .ref (rq 0)), (3, .ref o), (4, .int i)] [] (WA r rq o S M nv sv)) (i : Int32) (S : CS) (M : MS) (nv : Int64) (sv : Value) : AW RL nm cL_law 7 (some .boolean) hh (XS b L xs) (2 * K + 20) (PZ) (kc + 300) (ks + 17000) (flc_5 N K L xs k i S M nv) 488 [(0, .ref b), (1, .ref (r 0)), (2, .ref (rq 0)), (3, .ref o), (4, .int i)] [] (WA r rq o S M nv sv) := by
  unfold flc_5
  refine aw_aload_n (q := 489) dL_law_488 rfl 1 rfl ?_
  refine aw_aload_n (q := 490) dL_law_489 rfl 0 rfl ?_
  refine aw_iload (q := 492) dL_law_490 rfl 4 rfl ?_
  refine aw_iconst (q := 493) (v := 1) dL_law_492 rfl (by decide) ?_
  refine aw_iadd (q := 494) dL_law_493 rfl ?_
  refine aw_sld (q := 495) dL_law_494 rfl ?_
  refine aw_aload_n (q := 496) dL_law_495 rfl 0 rfl ?_
  refine aw_iload (q := 498) dL_law_496 rfl 4 rfl ?_
  refine aw_iconst (q := 499) (v := 2) dL_law_498 rfl (by decide) ?_
  refine aw_iadd (q := 500) dL_law_499 rfl ?_
  refine aw_sld (q := 501) dL_law_500 rfl ?_
  refine aw_aload_n (q := 502) dL_law_501 rfl 0 rfl ?_
  refine aw_iload (q := 504) dL_law_502 rfl 4 rfl ?_
  refine aw_iconst (q := 505) (v := 3) dL_law_504 rfl (by decide) ?_
  refine aw_iadd (q := 506) dL_law_505 rfl ?_
  refine aw_sld (q := 507) dL_law_506 rfl ?_
  refine aw_aload_n (q := 508) dL_law_507 rfl 0 rfl ?_
  refine aw_iload (q := 510) dL_law_508 rfl 4 rfl ?_
  refine aw_iconst (q := 511) (v := 4) dL_law_510 rfl (by decide) ?_
  refine aw_iadd (q := 512) dL_law_511 rfl ?_
  refine aw_sld (q := 513) dL_law_512 rfl ?_
  refine aw_aload_n (q := 514) dL_law_513 rfl 3 rfl ?_
  refine aw_call (q := 517) (kc1 := kc + 296) (ks1 := ks + 16976) (wc := WX r S ++ [OC o nv sv]) (wr := WM rq M) (st1 := fun z514 g514 => [.int z514.1]) (ws1 := fun z514 g514 => WM rq M ++ (WX r z514.2.1 ++ [OC o z514.2.2 sv])) (As := [.ref (r 0), .int (xs (i + (1 : Int32)).toNatClampNeg), .int (xs (i + (2 : Int32)).toNatClampNeg), .int (xs (i + (3 : Int32)).toNatClampNeg), .int (xs (i + (4 : Int32)).toNatClampNeg), .ref o]) [0, 1, 2, 3, 4, 5, 6, 7, 8, 9, 10, 11, 12, 13, 14, 15, 16, 17, 18, 19, 20, 21, 22, 23, 24, 25, 26, 41] [27, 28, 29, 30, 31, 32, 33, 34, 35, 36, 37, 38, 39, 40] (fun _ => runSX dL_law_514 mix_L_relearn st_L_relearn ml_L_175 (by omega) rfl (Nat.le_of_ble_eq_true rfl) rfl) (fun x9 h9 => ogL_relearn h9) rfl rfl rfl rfl rfl (by decide +kernel) (by omega) (by omega) (fun _ _ => rfl) (fun _ _ => rfl) (fun z514 g514 => ?_)
  refine aw_world (ws' := (WA r rq o z514.2.1 M z514.2.2 sv)) [14, 15, 16, 17, 18, 19, 20, 21, 22, 23, 24, 25, 26, 27, 28, 29, 30, 31, 32, 33, 34, 35, 36, 37, 38, 39, 40, 0, 1, 2, 3, 4, 5, 6, 7, 8, 9, 10, 11, 12, 13, 41] rfl rfl ?_
  refine aw_istore (q := 519) (lv' := [(5, .int z514.1), (0, .ref b), (1, .ref (r 0)), (2, .ref (rq 0)), (3, .ref o), (4, .int i)]) dL_law_517 rfl (by decide) rfl ?_
  refine aw_aload_n (q := 520) dL_law_519 rfl 3 rfl ?_
  refine aw_aload_n (q := 521) dL_law_520 rfl 1 rfl ?_
  refine aw_iload (q := 523) dL_law_521 rfl 5 rfl ?_
  refine aw_iconst (q := 524) (v := 1) dL_law_523 rfl (by decide) ?_
  refine aw_iadd (q := 525) dL_law_524 rfl ?_
  refine aw_sld (q := 526) dL_law_525 rfl ?_
  refine aw_aload_n (q := 527) dL_law_526 rfl 1 rfl ?_
  refine aw_iload (q := 529) dL_law_527 rfl 5 rfl ?_
  refine aw_iconst (q := 530) (v := 2) dL_law_529 rfl (by decide) ?_
  refine aw_iadd (q := 531) dL_law_530 rfl ?_
  refine aw_sld (q := 532) dL_law_531 rfl ?_
  refine aw_aload_n (q := 533) dL_law_532 rfl 1 rfl ?_
  refine aw_iload (q := 535) dL_law_533 rfl 5 rfl ?_
  refine aw_iconst (q := 536) (v := 3) dL_law_535 rfl (by decide) ?_
  refine aw_iadd (q := 537) dL_law_536 rfl ?_
  refine aw_sld (q := 538) dL_law_537 rfl ?_
  refine aw_aload_n (q := 539) dL_law_538 rfl 1 rfl ?_
  refine aw_iload (q := 541) dL_law_539 rfl 5 rfl ?_
  refine aw_iconst (q := 542) (v := 4) dL_law_541 rfl (by decide) ?_
  refine aw_iadd (q := 543) dL_law_542 rfl ?_
  refine aw_sld (q := 544) dL_law_543 rfl ?_
  refine aw_call (q := 547) (kc1 := kc + 295) (ks1 := ks + 16955) (wc := WM rq M) (wr := WX r z514.2.1 ++ [OC o z514.2.2 sv]) (st1 := fun z544 g544 => [.int z544.1]) (ws1 := fun z544 g544 => (WX r z514.2.1 ++ [OC o z514.2.2 sv]) ++ WM rq z544.2) (As := [.ref (rq 0), .int (xs (i + (1 : Int32)).toNatClampNeg), .int (xs (i + (2 : Int32)).toNatClampNeg), .int (xs (i + (3 : Int32)).toNatClampNeg), .int (xs (i + (4 : Int32)).toNatClampNeg)]) [27, 28, 29, 30, 31, 32, 33, 34, 35, 36, 37, 38, 39, 40] [0, 1, 2, 3, 4, 5, 6, 7, 8, 9, 10, 11, 12, 13, 14, 15, 16, 17, 18, 19, 20, 21, 22, 23, 24, 25, 26, 41] (fun _ => runV (q0 := 27) dL_law_544 mi_X7_relearn im_X7_relearn se_X7_relearn ml_L_177 (by omega) rfl (Nat.le_of_ble_eq_true rfl) rfl rfl rfl rfl) (fun x9 h9 => ogM_relearn h9) rfl rfl rfl rfl rfl (by decide +kernel) (by omega) (by omega) (fun _ _ => rfl) (fun _ _ => rfl) (fun z544 g544 => ?_)
  refine aw_world (ws' := (WA r rq o z514.2.1 z544.2 z514.2.2 sv)) [0, 1, 2, 3, 4, 5, 6, 7, 8, 9, 10, 11, 12, 13, 14, 15, 16, 17, 18, 19, 20, 21, 22, 23, 24, 25, 26, 28, 29, 30, 31, 32, 33, 34, 35, 36, 37, 38, 39, 40, 41, 27] rfl rfl ?_
  refine aw_istore (q := 549) (lv' := [(6, .int z544.1), (5, .int z514.1), (0, .ref b), (1, .ref (r 0)), (2, .ref (rq 0)), (3, .ref o), (4, .int i)]) dL_law_547 rfl (by decide) rfl ?_
  refine aw_goto (tgt := 2084) dL_law_549 (by decide) ?_
  refine aw_iinc (q := 2087) (v := (i + (6 : Int32))) (lv' := [(4, .int (i + (6 : Int32))), (6, .int z544.1), (5, .int z514.1), (0, .ref b), (1, .ref (r 0)), (2, .ref (rq 0)), (3, .ref o)]) dL_law_2084 rfl 6 rfl rfl (by decide) rfl ?_
  refine aw_goto (tgt := 27) dL_law_2087 (by decide) ?_
  refine aw_locals (lv' := [(0, .ref b), (1, .ref (r 0)), (2, .ref (rq 0)), (3, .ref o), (4, .int (i + (6 : Int32)))]) [3, 4, 5, 6, 0] rfl ?_
  refine aw_room (kc' := kc) (ks' := ks) (by omega) (by omega) ?_
  exact hk _ _ _ _ _
def flc_6 (N K L : Nat) (xs : Nat → Int32) (k : Int32 → CS → MS → Int64 → Option Int32) (i : Int32) (S : CS) (M : MS) (nv : Int64) : Option Int32 :=
  (if (i + (1 : Int32)) < 0 ∨ L ≤ (i + (1 : Int32)).toNatClampNeg then none else (if (i + (2 : Int32)) < 0 ∨ L ≤ (i + (2 : Int32)).toNatClampNeg then none else (if (i + (3 : Int32)) < 0 ∨ L ≤ (i + (3 : Int32)).toNatClampNeg then none else (if (i + (4 : Int32)) < 0 ∨ L ≤ (i + (4 : Int32)).toNatClampNeg then none else ((gL_forget N K S (xs (i + (1 : Int32)).toNatClampNeg) (xs (i + (2 : Int32)).toNatClampNeg) (xs (i + (3 : Int32)).toNatClampNeg) (xs (i + (4 : Int32)).toNatClampNeg) nv).bind (fun z578 => (if (i + (1 : Int32)) < 0 ∨ L ≤ (i + (1 : Int32)).toNatClampNeg then none else (if (i + (2 : Int32)) < 0 ∨ L ≤ (i + (2 : Int32)).toNatClampNeg then none else (if (i + (3 : Int32)) < 0 ∨ L ≤ (i + (3 : Int32)).toNatClampNeg then none else (if (i + (4 : Int32)) < 0 ∨ L ≤ (i + (4 : Int32)).toNatClampNeg then none else ((gM_forget N K M (xs (i + (1 : Int32)).toNatClampNeg) (xs (i + (2 : Int32)).toNatClampNeg) (xs (i + (3 : Int32)).toNatClampNeg) (xs (i + (4 : Int32)).toNatClampNeg)).bind (fun z608 => k (i + (6 : Int32)) z578.2.1 z608.2 z578.2.2))))))))))))
set_option maxHeartbeats 4000000 in
set_option maxRecDepth 100000 in
theorem tlc_6 {nm : String} {hh : List (Nat × Nat × Nat × Nat)} {N K b L kc ks : Nat} {xs : Nat → Int32} {r rq : Nat → Nat} {o : Nat} {k : Int32 → CS → MS → Int64 → Option Int32} (hk : ∀ (i : Int32) (S : CS) (M : MS) (nv : Int64) (sv : Value), AW RL nm cL_law 7 (some .boolean) hh (XS b L xs) (2 * K + 20) (PZ) kc ks (k i S M nv) 27 [(0, .ref b), (1, .ref (r 0)), (2, .ref (rq 0)), (3, .ref o), (4, .int i)] [] (WA r rq o S M nv sv)) (i : Int32) (S : CS) (M : MS) (nv : Int64) (sv : Value) : AW RL nm cL_law 7 (some .boolean) hh (XS b L xs) (2 * K + 20) (PZ) (kc + 300) (ks + 17000) (flc_6 N K L xs k i S M nv) 552 [(0, .ref b), (1, .ref (r 0)), (2, .ref (rq 0)), (3, .ref o), (4, .int i)] [] (WA r rq o S M nv sv) := by
  unfold flc_6
  refine aw_aload_n (q := 553) dL_law_552 rfl 1 rfl ?_
  refine aw_aload_n (q := 554) dL_law_553 rfl 0 rfl ?_
  refine aw_iload (q := 556) dL_law_554 rfl 4 rfl ?_
  refine aw_iconst (q := 557) (v := 1) dL_law_556 rfl (by decide) ?_
  refine aw_iadd (q := 558) dL_law_557 rfl ?_
  refine aw_sld (q := 559) dL_law_558 rfl ?_
  refine aw_aload_n (q := 560) dL_law_559 rfl 0 rfl ?_
  refine aw_iload (q := 562) dL_law_560 rfl 4 rfl ?_
  refine aw_iconst (q := 563) (v := 2) dL_law_562 rfl (by decide) ?_
  refine aw_iadd (q := 564) dL_law_563 rfl ?_
  refine aw_sld (q := 565) dL_law_564 rfl ?_
  refine aw_aload_n (q := 566) dL_law_565 rfl 0 rfl ?_
  refine aw_iload (q := 568) dL_law_566 rfl 4 rfl ?_
  refine aw_iconst (q := 569) (v := 3) dL_law_568 rfl (by decide) ?_
  refine aw_iadd (q := 570) dL_law_569 rfl ?_
  refine aw_sld (q := 571) dL_law_570 rfl ?_
  refine aw_aload_n (q := 572) dL_law_571 rfl 0 rfl ?_
  refine aw_iload (q := 574) dL_law_572 rfl 4 rfl ?_
  refine aw_iconst (q := 575) (v := 4) dL_law_574 rfl (by decide) ?_
  refine aw_iadd (q := 576) dL_law_575 rfl ?_
  refine aw_sld (q := 577) dL_law_576 rfl ?_
  refine aw_aload_n (q := 578) dL_law_577 rfl 3 rfl ?_
  refine aw_call (q := 581) (kc1 := kc + 296) (ks1 := ks + 16976) (wc := WX r S ++ [OC o nv sv]) (wr := WM rq M) (st1 := fun z578 g578 => [.int z578.1]) (ws1 := fun z578 g578 => WM rq M ++ (WX r z578.2.1 ++ [OC o z578.2.2 sv])) (As := [.ref (r 0), .int (xs (i + (1 : Int32)).toNatClampNeg), .int (xs (i + (2 : Int32)).toNatClampNeg), .int (xs (i + (3 : Int32)).toNatClampNeg), .int (xs (i + (4 : Int32)).toNatClampNeg), .ref o]) [0, 1, 2, 3, 4, 5, 6, 7, 8, 9, 10, 11, 12, 13, 14, 15, 16, 17, 18, 19, 20, 21, 22, 23, 24, 25, 26, 41] [27, 28, 29, 30, 31, 32, 33, 34, 35, 36, 37, 38, 39, 40] (fun _ => runSX dL_law_578 mix_L_forget st_L_forget ml_L_178 (by omega) rfl (Nat.le_of_ble_eq_true rfl) rfl) (fun x9 h9 => ogL_forget h9) rfl rfl rfl rfl rfl (by decide +kernel) (by omega) (by omega) (fun _ _ => rfl) (fun _ _ => rfl) (fun z578 g578 => ?_)
  refine aw_world (ws' := (WA r rq o z578.2.1 M z578.2.2 sv)) [14, 15, 16, 17, 18, 19, 20, 21, 22, 23, 24, 25, 26, 27, 28, 29, 30, 31, 32, 33, 34, 35, 36, 37, 38, 39, 40, 0, 1, 2, 3, 4, 5, 6, 7, 8, 9, 10, 11, 12, 13, 41] rfl rfl ?_
  refine aw_istore (q := 583) (lv' := [(5, .int z578.1), (0, .ref b), (1, .ref (r 0)), (2, .ref (rq 0)), (3, .ref o), (4, .int i)]) dL_law_581 rfl (by decide) rfl ?_
  refine aw_aload_n (q := 584) dL_law_583 rfl 3 rfl ?_
  refine aw_aload_n (q := 585) dL_law_584 rfl 1 rfl ?_
  refine aw_iload (q := 587) dL_law_585 rfl 5 rfl ?_
  refine aw_iconst (q := 588) (v := 1) dL_law_587 rfl (by decide) ?_
  refine aw_iadd (q := 589) dL_law_588 rfl ?_
  refine aw_sld (q := 590) dL_law_589 rfl ?_
  refine aw_aload_n (q := 591) dL_law_590 rfl 1 rfl ?_
  refine aw_iload (q := 593) dL_law_591 rfl 5 rfl ?_
  refine aw_iconst (q := 594) (v := 2) dL_law_593 rfl (by decide) ?_
  refine aw_iadd (q := 595) dL_law_594 rfl ?_
  refine aw_sld (q := 596) dL_law_595 rfl ?_
  refine aw_aload_n (q := 597) dL_law_596 rfl 1 rfl ?_
  refine aw_iload (q := 599) dL_law_597 rfl 5 rfl ?_
  refine aw_iconst (q := 600) (v := 3) dL_law_599 rfl (by decide) ?_
  refine aw_iadd (q := 601) dL_law_600 rfl ?_
  refine aw_sld (q := 602) dL_law_601 rfl ?_
  refine aw_aload_n (q := 603) dL_law_602 rfl 1 rfl ?_
  refine aw_iload (q := 605) dL_law_603 rfl 5 rfl ?_
  refine aw_iconst (q := 606) (v := 4) dL_law_605 rfl (by decide) ?_
  refine aw_iadd (q := 607) dL_law_606 rfl ?_
  refine aw_sld (q := 608) dL_law_607 rfl ?_
  refine aw_call (q := 611) (kc1 := kc + 296) (ks1 := ks + 16976) (wc := WM rq M) (wr := WX r z578.2.1 ++ [OC o z578.2.2 sv]) (st1 := fun z608 g608 => [.int z608.1]) (ws1 := fun z608 g608 => (WX r z578.2.1 ++ [OC o z578.2.2 sv]) ++ WM rq z608.2) (As := [.ref (rq 0), .int (xs (i + (1 : Int32)).toNatClampNeg), .int (xs (i + (2 : Int32)).toNatClampNeg), .int (xs (i + (3 : Int32)).toNatClampNeg), .int (xs (i + (4 : Int32)).toNatClampNeg)]) [27, 28, 29, 30, 31, 32, 33, 34, 35, 36, 37, 38, 39, 40] [0, 1, 2, 3, 4, 5, 6, 7, 8, 9, 10, 11, 12, 13, 14, 15, 16, 17, 18, 19, 20, 21, 22, 23, 24, 25, 26, 41] (fun _ => runV (q0 := 27) dL_law_608 mi_X7_forget im_X7_forget se_X7_forget ml_L_180 (by omega) rfl (Nat.le_of_ble_eq_true rfl) rfl rfl rfl rfl) (fun x9 h9 => ogM_forget h9) rfl rfl rfl rfl rfl (by decide +kernel) (by omega) (by omega) (fun _ _ => rfl) (fun _ _ => rfl) (fun z608 g608 => ?_)
  refine aw_world (ws' := (WA r rq o z578.2.1 z608.2 z578.2.2 sv)) [0, 1, 2, 3, 4, 5, 6, 7, 8, 9, 10, 11, 12, 13, 14, 15, 16, 17, 18, 19, 20, 21, 22, 23, 24, 25, 26, 28, 29, 30, 31, 32, 33, 34, 35, 36, 37, 38, 39, 40, 41, 27] rfl rfl ?_
  refine aw_istore (q := 613) (lv' := [(6, .int z608.1), (5, .int z578.1), (0, .ref b), (1, .ref (r 0)), (2, .ref (rq 0)), (3, .ref o), (4, .int i)]) dL_law_611 rfl (by decide) rfl ?_
  refine aw_goto (tgt := 2084) dL_law_613 (by decide) ?_
  refine aw_iinc (q := 2087) (v := (i + (6 : Int32))) (lv' := [(4, .int (i + (6 : Int32))), (6, .int z608.1), (5, .int z578.1), (0, .ref b), (1, .ref (r 0)), (2, .ref (rq 0)), (3, .ref o)]) dL_law_2084 rfl 6 rfl rfl (by decide) rfl ?_
  refine aw_goto (tgt := 27) dL_law_2087 (by decide) ?_
  refine aw_locals (lv' := [(0, .ref b), (1, .ref (r 0)), (2, .ref (rq 0)), (3, .ref o), (4, .int (i + (6 : Int32)))]) [3, 4, 5, 6, 0] rfl ?_
  refine aw_room (kc' := kc) (ks' := ks) (by omega) (by omega) ?_
  exact hk _ _ _ _ _
def flc_7 (N K L : Nat) (xs : Nat → Int32) (k : Int32 → CS → MS → Int64 → Option Int32) (i : Int32) (S : CS) (M : MS) (nv : Int64) : Option Int32 :=
  (if (i + (1 : Int32)) < 0 ∨ L ≤ (i + (1 : Int32)).toNatClampNeg then none else (if (i + (2 : Int32)) < 0 ∨ L ≤ (i + (2 : Int32)).toNatClampNeg then none else (if (i + (3 : Int32)) < 0 ∨ L ≤ (i + (3 : Int32)).toNatClampNeg then none else (if (i + (4 : Int32)) < 0 ∨ L ≤ (i + (4 : Int32)).toNatClampNeg then none else (if (i + (5 : Int32)) < 0 ∨ L ≤ (i + (5 : Int32)).toNatClampNeg then none else ((gL_forgetIf N K S (xs (i + (1 : Int32)).toNatClampNeg) (xs (i + (2 : Int32)).toNatClampNeg) (xs (i + (3 : Int32)).toNatClampNeg) (xs (i + (4 : Int32)).toNatClampNeg) (xs (i + (5 : Int32)).toNatClampNeg) nv).bind (fun z648 => (if (i + (1 : Int32)) < 0 ∨ L ≤ (i + (1 : Int32)).toNatClampNeg then none else (if (i + (2 : Int32)) < 0 ∨ L ≤ (i + (2 : Int32)).toNatClampNeg then none else (if (i + (3 : Int32)) < 0 ∨ L ≤ (i + (3 : Int32)).toNatClampNeg then none else (if (i + (4 : Int32)) < 0 ∨ L ≤ (i + (4 : Int32)).toNatClampNeg then none else (if (i + (5 : Int32)) < 0 ∨ L ≤ (i + (5 : Int32)).toNatClampNeg then none else ((gM_forgetIf N K M (xs (i + (1 : Int32)).toNatClampNeg) (xs (i + (2 : Int32)).toNatClampNeg) (xs (i + (3 : Int32)).toNatClampNeg) (xs (i + (4 : Int32)).toNatClampNeg) (xs (i + (5 : Int32)).toNatClampNeg)).bind (fun z684 => k (i + (6 : Int32)) z648.2.1 z684.2 z648.2.2))))))))))))))
set_option maxHeartbeats 4000000 in
set_option maxRecDepth 100000 in
theorem tlc_7 {nm : String} {hh : List (Nat × Nat × Nat × Nat)} {N K b L kc ks : Nat} {xs : Nat → Int32} {r rq : Nat → Nat} {o : Nat} {k : Int32 → CS → MS → Int64 → Option Int32} (hk : ∀ (i : Int32) (S : CS) (M : MS) (nv : Int64) (sv : Value), AW RL nm cL_law 7 (some .boolean) hh (XS b L xs) (2 * K + 20) (PZ) kc ks (k i S M nv) 27 [(0, .ref b), (1, .ref (r 0)), (2, .ref (rq 0)), (3, .ref o), (4, .int i)] [] (WA r rq o S M nv sv)) (i : Int32) (S : CS) (M : MS) (nv : Int64) (sv : Value) : AW RL nm cL_law 7 (some .boolean) hh (XS b L xs) (2 * K + 20) (PZ) (kc + 300) (ks + 17000) (flc_7 N K L xs k i S M nv) 616 [(0, .ref b), (1, .ref (r 0)), (2, .ref (rq 0)), (3, .ref o), (4, .int i)] [] (WA r rq o S M nv sv) := by
  unfold flc_7
  refine aw_aload_n (q := 617) dL_law_616 rfl 1 rfl ?_
  refine aw_aload_n (q := 618) dL_law_617 rfl 0 rfl ?_
  refine aw_iload (q := 620) dL_law_618 rfl 4 rfl ?_
  refine aw_iconst (q := 621) (v := 1) dL_law_620 rfl (by decide) ?_
  refine aw_iadd (q := 622) dL_law_621 rfl ?_
  refine aw_sld (q := 623) dL_law_622 rfl ?_
  refine aw_aload_n (q := 624) dL_law_623 rfl 0 rfl ?_
  refine aw_iload (q := 626) dL_law_624 rfl 4 rfl ?_
  refine aw_iconst (q := 627) (v := 2) dL_law_626 rfl (by decide) ?_
  refine aw_iadd (q := 628) dL_law_627 rfl ?_
  refine aw_sld (q := 629) dL_law_628 rfl ?_
  refine aw_aload_n (q := 630) dL_law_629 rfl 0 rfl ?_
  refine aw_iload (q := 632) dL_law_630 rfl 4 rfl ?_
  refine aw_iconst (q := 633) (v := 3) dL_law_632 rfl (by decide) ?_
  refine aw_iadd (q := 634) dL_law_633 rfl ?_
  refine aw_sld (q := 635) dL_law_634 rfl ?_
  refine aw_aload_n (q := 636) dL_law_635 rfl 0 rfl ?_
  refine aw_iload (q := 638) dL_law_636 rfl 4 rfl ?_
  refine aw_iconst (q := 639) (v := 4) dL_law_638 rfl (by decide) ?_
  refine aw_iadd (q := 640) dL_law_639 rfl ?_
  refine aw_sld (q := 641) dL_law_640 rfl ?_
  refine aw_aload_n (q := 642) dL_law_641 rfl 0 rfl ?_
  refine aw_iload (q := 644) dL_law_642 rfl 4 rfl ?_
  refine aw_iconst (q := 645) (v := 5) dL_law_644 rfl (by decide) ?_
  refine aw_iadd (q := 646) dL_law_645 rfl ?_
  refine aw_sld (q := 647) dL_law_646 rfl ?_
  refine aw_aload_n (q := 648) dL_law_647 rfl 3 rfl ?_
  refine aw_call (q := 651) (kc1 := kc + 296) (ks1 := ks + 16976) (wc := WX r S ++ [OC o nv sv]) (wr := WM rq M) (st1 := fun z648 g648 => [.int z648.1]) (ws1 := fun z648 g648 => WM rq M ++ (WX r z648.2.1 ++ [OC o z648.2.2 sv])) (As := [.ref (r 0), .int (xs (i + (1 : Int32)).toNatClampNeg), .int (xs (i + (2 : Int32)).toNatClampNeg), .int (xs (i + (3 : Int32)).toNatClampNeg), .int (xs (i + (4 : Int32)).toNatClampNeg), .int (xs (i + (5 : Int32)).toNatClampNeg), .ref o]) [0, 1, 2, 3, 4, 5, 6, 7, 8, 9, 10, 11, 12, 13, 14, 15, 16, 17, 18, 19, 20, 21, 22, 23, 24, 25, 26, 41] [27, 28, 29, 30, 31, 32, 33, 34, 35, 36, 37, 38, 39, 40] (fun _ => runSX dL_law_648 mix_L_forgetIf st_L_forgetIf ml_L_181 (by omega) rfl (Nat.le_of_ble_eq_true rfl) rfl) (fun x9 h9 => ogL_forgetIf h9) rfl rfl rfl rfl rfl (by decide +kernel) (by omega) (by omega) (fun _ _ => rfl) (fun _ _ => rfl) (fun z648 g648 => ?_)
  refine aw_world (ws' := (WA r rq o z648.2.1 M z648.2.2 sv)) [14, 15, 16, 17, 18, 19, 20, 21, 22, 23, 24, 25, 26, 27, 28, 29, 30, 31, 32, 33, 34, 35, 36, 37, 38, 39, 40, 0, 1, 2, 3, 4, 5, 6, 7, 8, 9, 10, 11, 12, 13, 41] rfl rfl ?_
  refine aw_istore (q := 653) (lv' := [(5, .int z648.1), (0, .ref b), (1, .ref (r 0)), (2, .ref (rq 0)), (3, .ref o), (4, .int i)]) dL_law_651 rfl (by decide) rfl ?_
  refine aw_aload_n (q := 654) dL_law_653 rfl 3 rfl ?_
  refine aw_aload_n (q := 655) dL_law_654 rfl 1 rfl ?_
  refine aw_iload (q := 657) dL_law_655 rfl 5 rfl ?_
  refine aw_iconst (q := 658) (v := 1) dL_law_657 rfl (by decide) ?_
  refine aw_iadd (q := 659) dL_law_658 rfl ?_
  refine aw_sld (q := 660) dL_law_659 rfl ?_
  refine aw_aload_n (q := 661) dL_law_660 rfl 1 rfl ?_
  refine aw_iload (q := 663) dL_law_661 rfl 5 rfl ?_
  refine aw_iconst (q := 664) (v := 2) dL_law_663 rfl (by decide) ?_
  refine aw_iadd (q := 665) dL_law_664 rfl ?_
  refine aw_sld (q := 666) dL_law_665 rfl ?_
  refine aw_aload_n (q := 667) dL_law_666 rfl 1 rfl ?_
  refine aw_iload (q := 669) dL_law_667 rfl 5 rfl ?_
  refine aw_iconst (q := 670) (v := 3) dL_law_669 rfl (by decide) ?_
  refine aw_iadd (q := 671) dL_law_670 rfl ?_
  refine aw_sld (q := 672) dL_law_671 rfl ?_
  refine aw_aload_n (q := 673) dL_law_672 rfl 1 rfl ?_
  refine aw_iload (q := 675) dL_law_673 rfl 5 rfl ?_
  refine aw_iconst (q := 676) (v := 4) dL_law_675 rfl (by decide) ?_
  refine aw_iadd (q := 677) dL_law_676 rfl ?_
  refine aw_sld (q := 678) dL_law_677 rfl ?_
  refine aw_aload_n (q := 679) dL_law_678 rfl 1 rfl ?_
  refine aw_iload (q := 681) dL_law_679 rfl 5 rfl ?_
  refine aw_iconst (q := 682) (v := 5) dL_law_681 rfl (by decide) ?_
  refine aw_iadd (q := 683) dL_law_682 rfl ?_
  refine aw_sld (q := 684) dL_law_683 rfl ?_
  refine aw_call (q := 687) (kc1 := kc + 296) (ks1 := ks + 16976) (wc := WM rq M) (wr := WX r z648.2.1 ++ [OC o z648.2.2 sv]) (st1 := fun z684 g684 => [.int z684.1]) (ws1 := fun z684 g684 => (WX r z648.2.1 ++ [OC o z648.2.2 sv]) ++ WM rq z684.2) (As := [.ref (rq 0), .int (xs (i + (1 : Int32)).toNatClampNeg), .int (xs (i + (2 : Int32)).toNatClampNeg), .int (xs (i + (3 : Int32)).toNatClampNeg), .int (xs (i + (4 : Int32)).toNatClampNeg), .int (xs (i + (5 : Int32)).toNatClampNeg)]) [27, 28, 29, 30, 31, 32, 33, 34, 35, 36, 37, 38, 39, 40] [0, 1, 2, 3, 4, 5, 6, 7, 8, 9, 10, 11, 12, 13, 14, 15, 16, 17, 18, 19, 20, 21, 22, 23, 24, 25, 26, 41] (fun _ => runV (q0 := 27) dL_law_684 mi_X7_forgetIf im_X7_forgetIf se_X7_forgetIf ml_L_184 (by omega) rfl (Nat.le_of_ble_eq_true rfl) rfl rfl rfl rfl) (fun x9 h9 => ogM_forgetIf h9) rfl rfl rfl rfl rfl (by decide +kernel) (by omega) (by omega) (fun _ _ => rfl) (fun _ _ => rfl) (fun z684 g684 => ?_)
  refine aw_world (ws' := (WA r rq o z648.2.1 z684.2 z648.2.2 sv)) [0, 1, 2, 3, 4, 5, 6, 7, 8, 9, 10, 11, 12, 13, 14, 15, 16, 17, 18, 19, 20, 21, 22, 23, 24, 25, 26, 28, 29, 30, 31, 32, 33, 34, 35, 36, 37, 38, 39, 40, 41, 27] rfl rfl ?_
  refine aw_istore (q := 689) (lv' := [(6, .int z684.1), (5, .int z648.1), (0, .ref b), (1, .ref (r 0)), (2, .ref (rq 0)), (3, .ref o), (4, .int i)]) dL_law_687 rfl (by decide) rfl ?_
  refine aw_goto (tgt := 2084) dL_law_689 (by decide) ?_
  refine aw_iinc (q := 2087) (v := (i + (6 : Int32))) (lv' := [(4, .int (i + (6 : Int32))), (6, .int z684.1), (5, .int z648.1), (0, .ref b), (1, .ref (r 0)), (2, .ref (rq 0)), (3, .ref o)]) dL_law_2084 rfl 6 rfl rfl (by decide) rfl ?_
  refine aw_goto (tgt := 27) dL_law_2087 (by decide) ?_
  refine aw_locals (lv' := [(0, .ref b), (1, .ref (r 0)), (2, .ref (rq 0)), (3, .ref o), (4, .int (i + (6 : Int32)))]) [3, 4, 5, 6, 0] rfl ?_
  refine aw_room (kc' := kc) (ks' := ks) (by omega) (by omega) ?_
  exact hk _ _ _ _ _
def flc_8 (N K L : Nat) (xs : Nat → Int32) (k : Int32 → CS → MS → Int64 → Option Int32) (i : Int32) (S : CS) (M : MS) (nv : Int64) : Option Int32 :=
  (if (i + (1 : Int32)) < 0 ∨ L ≤ (i + (1 : Int32)).toNatClampNeg then none else (if (i + (2 : Int32)) < 0 ∨ L ≤ (i + (2 : Int32)).toNatClampNeg then none else (if (i + (3 : Int32)) < 0 ∨ L ≤ (i + (3 : Int32)).toNatClampNeg then none else ((gL_forgetAll N K S (xs (i + (1 : Int32)).toNatClampNeg) (xs (i + (2 : Int32)).toNatClampNeg) (xs (i + (3 : Int32)).toNatClampNeg) nv).bind (fun z712 => (if (i + (1 : Int32)) < 0 ∨ L ≤ (i + (1 : Int32)).toNatClampNeg then none else (if (i + (2 : Int32)) < 0 ∨ L ≤ (i + (2 : Int32)).toNatClampNeg then none else (if (i + (3 : Int32)) < 0 ∨ L ≤ (i + (3 : Int32)).toNatClampNeg then none else ((gM_forgetAll N K M (xs (i + (1 : Int32)).toNatClampNeg) (xs (i + (2 : Int32)).toNatClampNeg) (xs (i + (3 : Int32)).toNatClampNeg)).bind (fun z736 => k (i + (6 : Int32)) z712.2.1 z736.2 z712.2.2))))))))))
set_option maxHeartbeats 4000000 in
set_option maxRecDepth 100000 in
theorem tlc_8 {nm : String} {hh : List (Nat × Nat × Nat × Nat)} {N K b L kc ks : Nat} {xs : Nat → Int32} {r rq : Nat → Nat} {o : Nat} {k : Int32 → CS → MS → Int64 → Option Int32} (hk : ∀ (i : Int32) (S : CS) (M : MS) (nv : Int64) (sv : Value), AW RL nm cL_law 7 (some .boolean) hh (XS b L xs) (2 * K + 20) (PZ) kc ks (k i S M nv) 27 [(0, .ref b), (1, .ref (r 0)), (2, .ref (rq 0)), (3, .ref o), (4, .int i)] [] (WA r rq o S M nv sv)) (i : Int32) (S : CS) (M : MS) (nv : Int64) (sv : Value) : AW RL nm cL_law 7 (some .boolean) hh (XS b L xs) (2 * K + 20) (PZ) (kc + 300) (ks + 17000) (flc_8 N K L xs k i S M nv) 692 [(0, .ref b), (1, .ref (r 0)), (2, .ref (rq 0)), (3, .ref o), (4, .int i)] [] (WA r rq o S M nv sv) := by
  unfold flc_8
  refine aw_aload_n (q := 693) dL_law_692 rfl 1 rfl ?_
  refine aw_aload_n (q := 694) dL_law_693 rfl 0 rfl ?_
  refine aw_iload (q := 696) dL_law_694 rfl 4 rfl ?_
  refine aw_iconst (q := 697) (v := 1) dL_law_696 rfl (by decide) ?_
  refine aw_iadd (q := 698) dL_law_697 rfl ?_
  refine aw_sld (q := 699) dL_law_698 rfl ?_
  refine aw_aload_n (q := 700) dL_law_699 rfl 0 rfl ?_
  refine aw_iload (q := 702) dL_law_700 rfl 4 rfl ?_
  refine aw_iconst (q := 703) (v := 2) dL_law_702 rfl (by decide) ?_
  refine aw_iadd (q := 704) dL_law_703 rfl ?_
  refine aw_sld (q := 705) dL_law_704 rfl ?_
  refine aw_aload_n (q := 706) dL_law_705 rfl 0 rfl ?_
  refine aw_iload (q := 708) dL_law_706 rfl 4 rfl ?_
  refine aw_iconst (q := 709) (v := 3) dL_law_708 rfl (by decide) ?_
  refine aw_iadd (q := 710) dL_law_709 rfl ?_
  refine aw_sld (q := 711) dL_law_710 rfl ?_
  refine aw_aload_n (q := 712) dL_law_711 rfl 3 rfl ?_
  refine aw_call (q := 715) (kc1 := kc + 298) (ks1 := ks + 16988) (wc := WX r S ++ [OC o nv sv]) (wr := WM rq M) (st1 := fun z712 g712 => [.int z712.1]) (ws1 := fun z712 g712 => WM rq M ++ (WX r z712.2.1 ++ [OC o z712.2.2 sv])) (As := [.ref (r 0), .int (xs (i + (1 : Int32)).toNatClampNeg), .int (xs (i + (2 : Int32)).toNatClampNeg), .int (xs (i + (3 : Int32)).toNatClampNeg), .ref o]) [0, 1, 2, 3, 4, 5, 6, 7, 8, 9, 10, 11, 12, 13, 14, 15, 16, 17, 18, 19, 20, 21, 22, 23, 24, 25, 26, 41] [27, 28, 29, 30, 31, 32, 33, 34, 35, 36, 37, 38, 39, 40] (fun _ => runSX dL_law_712 mix_L_forgetAll st_L_forgetAll ml_L_185 (by omega) rfl (Nat.le_of_ble_eq_true rfl) rfl) (fun x9 h9 => ogL_forgetAll h9) rfl rfl rfl rfl rfl (by decide +kernel) (by omega) (by omega) (fun _ _ => rfl) (fun _ _ => rfl) (fun z712 g712 => ?_)
  refine aw_world (ws' := (WA r rq o z712.2.1 M z712.2.2 sv)) [14, 15, 16, 17, 18, 19, 20, 21, 22, 23, 24, 25, 26, 27, 28, 29, 30, 31, 32, 33, 34, 35, 36, 37, 38, 39, 40, 0, 1, 2, 3, 4, 5, 6, 7, 8, 9, 10, 11, 12, 13, 41] rfl rfl ?_
  refine aw_istore (q := 717) (lv' := [(5, .int z712.1), (0, .ref b), (1, .ref (r 0)), (2, .ref (rq 0)), (3, .ref o), (4, .int i)]) dL_law_715 rfl (by decide) rfl ?_
  refine aw_aload_n (q := 718) dL_law_717 rfl 3 rfl ?_
  refine aw_aload_n (q := 719) dL_law_718 rfl 1 rfl ?_
  refine aw_iload (q := 721) dL_law_719 rfl 5 rfl ?_
  refine aw_iconst (q := 722) (v := 1) dL_law_721 rfl (by decide) ?_
  refine aw_iadd (q := 723) dL_law_722 rfl ?_
  refine aw_sld (q := 724) dL_law_723 rfl ?_
  refine aw_aload_n (q := 725) dL_law_724 rfl 1 rfl ?_
  refine aw_iload (q := 727) dL_law_725 rfl 5 rfl ?_
  refine aw_iconst (q := 728) (v := 2) dL_law_727 rfl (by decide) ?_
  refine aw_iadd (q := 729) dL_law_728 rfl ?_
  refine aw_sld (q := 730) dL_law_729 rfl ?_
  refine aw_aload_n (q := 731) dL_law_730 rfl 1 rfl ?_
  refine aw_iload (q := 733) dL_law_731 rfl 5 rfl ?_
  refine aw_iconst (q := 734) (v := 3) dL_law_733 rfl (by decide) ?_
  refine aw_iadd (q := 735) dL_law_734 rfl ?_
  refine aw_sld (q := 736) dL_law_735 rfl ?_
  refine aw_call (q := 739) (kc1 := kc + 298) (ks1 := ks + 16988) (wc := WM rq M) (wr := WX r z712.2.1 ++ [OC o z712.2.2 sv]) (st1 := fun z736 g736 => [.int z736.1]) (ws1 := fun z736 g736 => (WX r z712.2.1 ++ [OC o z712.2.2 sv]) ++ WM rq z736.2) (As := [.ref (rq 0), .int (xs (i + (1 : Int32)).toNatClampNeg), .int (xs (i + (2 : Int32)).toNatClampNeg), .int (xs (i + (3 : Int32)).toNatClampNeg)]) [27, 28, 29, 30, 31, 32, 33, 34, 35, 36, 37, 38, 39, 40] [0, 1, 2, 3, 4, 5, 6, 7, 8, 9, 10, 11, 12, 13, 14, 15, 16, 17, 18, 19, 20, 21, 22, 23, 24, 25, 26, 41] (fun _ => runV (q0 := 27) dL_law_736 mi_X7_forgetAll im_X7_forgetAll se_X7_forgetAll ml_L_187 (by omega) rfl (Nat.le_of_ble_eq_true rfl) rfl rfl rfl rfl) (fun x9 h9 => ogM_forgetAll h9) rfl rfl rfl rfl rfl (by decide +kernel) (by omega) (by omega) (fun _ _ => rfl) (fun _ _ => rfl) (fun z736 g736 => ?_)
  refine aw_world (ws' := (WA r rq o z712.2.1 z736.2 z712.2.2 sv)) [0, 1, 2, 3, 4, 5, 6, 7, 8, 9, 10, 11, 12, 13, 14, 15, 16, 17, 18, 19, 20, 21, 22, 23, 24, 25, 26, 28, 29, 30, 31, 32, 33, 34, 35, 36, 37, 38, 39, 40, 41, 27] rfl rfl ?_
  refine aw_istore (q := 741) (lv' := [(6, .int z736.1), (5, .int z712.1), (0, .ref b), (1, .ref (r 0)), (2, .ref (rq 0)), (3, .ref o), (4, .int i)]) dL_law_739 rfl (by decide) rfl ?_
  refine aw_goto (tgt := 2084) dL_law_741 (by decide) ?_
  refine aw_iinc (q := 2087) (v := (i + (6 : Int32))) (lv' := [(4, .int (i + (6 : Int32))), (6, .int z736.1), (5, .int z712.1), (0, .ref b), (1, .ref (r 0)), (2, .ref (rq 0)), (3, .ref o)]) dL_law_2084 rfl 6 rfl rfl (by decide) rfl ?_
  refine aw_goto (tgt := 27) dL_law_2087 (by decide) ?_
  refine aw_locals (lv' := [(0, .ref b), (1, .ref (r 0)), (2, .ref (rq 0)), (3, .ref o), (4, .int (i + (6 : Int32)))]) [3, 4, 5, 6, 0] rfl ?_
  refine aw_room (kc' := kc) (ks' := ks) (by omega) (by omega) ?_
  exact hk _ _ _ _ _
def flc_9 (N K L : Nat) (xs : Nat → Int32) (k : Int32 → CS → MS → Int64 → Option Int32) (i : Int32) (S : CS) (M : MS) (nv : Int64) : Option Int32 :=
  (if (i + (1 : Int32)) < 0 ∨ L ≤ (i + (1 : Int32)).toNatClampNeg then none else ((gL_clear N K S (xs (i + (1 : Int32)).toNatClampNeg) nv).bind (fun z752 => (if (i + (1 : Int32)) < 0 ∨ L ≤ (i + (1 : Int32)).toNatClampNeg then none else ((gM_clear N K M (xs (i + (1 : Int32)).toNatClampNeg)).bind (fun z764 => k (i + (6 : Int32)) z752.2.1 z764.2 z752.2.2))))))
set_option maxHeartbeats 4000000 in
set_option maxRecDepth 100000 in
theorem tlc_9 {nm : String} {hh : List (Nat × Nat × Nat × Nat)} {N K b L kc ks : Nat} {xs : Nat → Int32} {r rq : Nat → Nat} {o : Nat} {k : Int32 → CS → MS → Int64 → Option Int32} (hk : ∀ (i : Int32) (S : CS) (M : MS) (nv : Int64) (sv : Value), AW RL nm cL_law 7 (some .boolean) hh (XS b L xs) (2 * K + 20) (PZ) kc ks (k i S M nv) 27 [(0, .ref b), (1, .ref (r 0)), (2, .ref (rq 0)), (3, .ref o), (4, .int i)] [] (WA r rq o S M nv sv)) (i : Int32) (S : CS) (M : MS) (nv : Int64) (sv : Value) : AW RL nm cL_law 7 (some .boolean) hh (XS b L xs) (2 * K + 20) (PZ) (kc + 300) (ks + 17000) (flc_9 N K L xs k i S M nv) 744 [(0, .ref b), (1, .ref (r 0)), (2, .ref (rq 0)), (3, .ref o), (4, .int i)] [] (WA r rq o S M nv sv) := by
  unfold flc_9
  refine aw_aload_n (q := 745) dL_law_744 rfl 1 rfl ?_
  refine aw_aload_n (q := 746) dL_law_745 rfl 0 rfl ?_
  refine aw_iload (q := 748) dL_law_746 rfl 4 rfl ?_
  refine aw_iconst (q := 749) (v := 1) dL_law_748 rfl (by decide) ?_
  refine aw_iadd (q := 750) dL_law_749 rfl ?_
  refine aw_sld (q := 751) dL_law_750 rfl ?_
  refine aw_aload_n (q := 752) dL_law_751 rfl 3 rfl ?_
  refine aw_call (q := 755) (kc1 := kc + 299) (ks1 := ks + 16994) (wc := WX r S ++ [OC o nv sv]) (wr := WM rq M) (st1 := fun z752 g752 => [.int z752.1]) (ws1 := fun z752 g752 => WM rq M ++ (WX r z752.2.1 ++ [OC o z752.2.2 sv])) (As := [.ref (r 0), .int (xs (i + (1 : Int32)).toNatClampNeg), .ref o]) [0, 1, 2, 3, 4, 5, 6, 7, 8, 9, 10, 11, 12, 13, 14, 15, 16, 17, 18, 19, 20, 21, 22, 23, 24, 25, 26, 41] [27, 28, 29, 30, 31, 32, 33, 34, 35, 36, 37, 38, 39, 40] (fun _ => runSX dL_law_752 mix_L_clear st_L_clear ml_L_188 (by omega) rfl (Nat.le_of_ble_eq_true rfl) rfl) (fun x9 h9 => ogL_clear h9) rfl rfl rfl rfl rfl (by decide +kernel) (by omega) (by omega) (fun _ _ => rfl) (fun _ _ => rfl) (fun z752 g752 => ?_)
  refine aw_world (ws' := (WA r rq o z752.2.1 M z752.2.2 sv)) [14, 15, 16, 17, 18, 19, 20, 21, 22, 23, 24, 25, 26, 27, 28, 29, 30, 31, 32, 33, 34, 35, 36, 37, 38, 39, 40, 0, 1, 2, 3, 4, 5, 6, 7, 8, 9, 10, 11, 12, 13, 41] rfl rfl ?_
  refine aw_istore (q := 757) (lv' := [(5, .int z752.1), (0, .ref b), (1, .ref (r 0)), (2, .ref (rq 0)), (3, .ref o), (4, .int i)]) dL_law_755 rfl (by decide) rfl ?_
  refine aw_aload_n (q := 758) dL_law_757 rfl 3 rfl ?_
  refine aw_aload_n (q := 759) dL_law_758 rfl 1 rfl ?_
  refine aw_iload (q := 761) dL_law_759 rfl 5 rfl ?_
  refine aw_iconst (q := 762) (v := 1) dL_law_761 rfl (by decide) ?_
  refine aw_iadd (q := 763) dL_law_762 rfl ?_
  refine aw_sld (q := 764) dL_law_763 rfl ?_
  refine aw_call (q := 767) (kc1 := kc + 299) (ks1 := ks + 16994) (wc := WM rq M) (wr := WX r z752.2.1 ++ [OC o z752.2.2 sv]) (st1 := fun z764 g764 => [.int z764.1]) (ws1 := fun z764 g764 => (WX r z752.2.1 ++ [OC o z752.2.2 sv]) ++ WM rq z764.2) (As := [.ref (rq 0), .int (xs (i + (1 : Int32)).toNatClampNeg)]) [27, 28, 29, 30, 31, 32, 33, 34, 35, 36, 37, 38, 39, 40] [0, 1, 2, 3, 4, 5, 6, 7, 8, 9, 10, 11, 12, 13, 14, 15, 16, 17, 18, 19, 20, 21, 22, 23, 24, 25, 26, 41] (fun _ => runV (q0 := 27) dL_law_764 mi_X7_clear im_X7_clear se_X7_clear ml_L_191 (by omega) rfl (Nat.le_of_ble_eq_true rfl) rfl rfl rfl rfl) (fun x9 h9 => ogM_clear h9) rfl rfl rfl rfl rfl (by decide +kernel) (by omega) (by omega) (fun _ _ => rfl) (fun _ _ => rfl) (fun z764 g764 => ?_)
  refine aw_world (ws' := (WA r rq o z752.2.1 z764.2 z752.2.2 sv)) [0, 1, 2, 3, 4, 5, 6, 7, 8, 9, 10, 11, 12, 13, 14, 15, 16, 17, 18, 19, 20, 21, 22, 23, 24, 25, 26, 28, 29, 30, 31, 32, 33, 34, 35, 36, 37, 38, 39, 40, 41, 27] rfl rfl ?_
  refine aw_istore (q := 769) (lv' := [(6, .int z764.1), (5, .int z752.1), (0, .ref b), (1, .ref (r 0)), (2, .ref (rq 0)), (3, .ref o), (4, .int i)]) dL_law_767 rfl (by decide) rfl ?_
  refine aw_goto (tgt := 2084) dL_law_769 (by decide) ?_
  refine aw_iinc (q := 2087) (v := (i + (6 : Int32))) (lv' := [(4, .int (i + (6 : Int32))), (6, .int z764.1), (5, .int z752.1), (0, .ref b), (1, .ref (r 0)), (2, .ref (rq 0)), (3, .ref o)]) dL_law_2084 rfl 6 rfl rfl (by decide) rfl ?_
  refine aw_goto (tgt := 27) dL_law_2087 (by decide) ?_
  refine aw_locals (lv' := [(0, .ref b), (1, .ref (r 0)), (2, .ref (rq 0)), (3, .ref o), (4, .int (i + (6 : Int32)))]) [3, 4, 5, 6, 0] rfl ?_
  refine aw_room (kc' := kc) (ks' := ks) (by omega) (by omega) ?_
  exact hk _ _ _ _ _
def flc_10 (N K L : Nat) (xs : Nat → Int32) (k : Int32 → CS → MS → Int64 → Option Int32) (i : Int32) (S : CS) (M : MS) (nv : Int64) : Option Int32 :=
  (if (i + (1 : Int32)) < 0 ∨ L ≤ (i + (1 : Int32)).toNatClampNeg then none else (if (i + (2 : Int32)) < 0 ∨ L ≤ (i + (2 : Int32)).toNatClampNeg then none else ((gL_copy N K S (xs (i + (1 : Int32)).toNatClampNeg) (xs (i + (2 : Int32)).toNatClampNeg) nv).bind (fun z786 => (if (i + (1 : Int32)) < 0 ∨ L ≤ (i + (1 : Int32)).toNatClampNeg then none else (if (i + (2 : Int32)) < 0 ∨ L ≤ (i + (2 : Int32)).toNatClampNeg then none else ((gM_copy N K M (xs (i + (1 : Int32)).toNatClampNeg) (xs (i + (2 : Int32)).toNatClampNeg)).bind (fun z804 => k (i + (6 : Int32)) z786.2.1 z804.2 z786.2.2))))))))
set_option maxHeartbeats 4000000 in
set_option maxRecDepth 100000 in
theorem tlc_10 {nm : String} {hh : List (Nat × Nat × Nat × Nat)} {N K b L kc ks : Nat} {xs : Nat → Int32} {r rq : Nat → Nat} {o : Nat} {k : Int32 → CS → MS → Int64 → Option Int32} (hk : ∀ (i : Int32) (S : CS) (M : MS) (nv : Int64) (sv : Value), AW RL nm cL_law 7 (some .boolean) hh (XS b L xs) (2 * K + 20) (PZ) kc ks (k i S M nv) 27 [(0, .ref b), (1, .ref (r 0)), (2, .ref (rq 0)), (3, .ref o), (4, .int i)] [] (WA r rq o S M nv sv)) (i : Int32) (S : CS) (M : MS) (nv : Int64) (sv : Value) : AW RL nm cL_law 7 (some .boolean) hh (XS b L xs) (2 * K + 20) (PZ) (kc + 300) (ks + 17000) (flc_10 N K L xs k i S M nv) 772 [(0, .ref b), (1, .ref (r 0)), (2, .ref (rq 0)), (3, .ref o), (4, .int i)] [] (WA r rq o S M nv sv) := by
  unfold flc_10
  refine aw_aload_n (q := 773) dL_law_772 rfl 1 rfl ?_
  refine aw_aload_n (q := 774) dL_law_773 rfl 0 rfl ?_
  refine aw_iload (q := 776) dL_law_774 rfl 4 rfl ?_
  refine aw_iconst (q := 777) (v := 1) dL_law_776 rfl (by decide) ?_
  refine aw_iadd (q := 778) dL_law_777 rfl ?_
  refine aw_sld (q := 779) dL_law_778 rfl ?_
  refine aw_aload_n (q := 780) dL_law_779 rfl 0 rfl ?_
  refine aw_iload (q := 782) dL_law_780 rfl 4 rfl ?_
  refine aw_iconst (q := 783) (v := 2) dL_law_782 rfl (by decide) ?_
  refine aw_iadd (q := 784) dL_law_783 rfl ?_
  refine aw_sld (q := 785) dL_law_784 rfl ?_
  refine aw_aload_n (q := 786) dL_law_785 rfl 3 rfl ?_
  refine aw_call (q := 789) (kc1 := kc + 298) (ks1 := ks + 16988) (wc := WX r S ++ [OC o nv sv]) (wr := WM rq M) (st1 := fun z786 g786 => [.int z786.1]) (ws1 := fun z786 g786 => WM rq M ++ (WX r z786.2.1 ++ [OC o z786.2.2 sv])) (As := [.ref (r 0), .int (xs (i + (1 : Int32)).toNatClampNeg), .int (xs (i + (2 : Int32)).toNatClampNeg), .ref o]) [0, 1, 2, 3, 4, 5, 6, 7, 8, 9, 10, 11, 12, 13, 14, 15, 16, 17, 18, 19, 20, 21, 22, 23, 24, 25, 26, 41] [27, 28, 29, 30, 31, 32, 33, 34, 35, 36, 37, 38, 39, 40] (fun _ => runSX dL_law_786 mix_L_copy st_L_copy ml_L_192 (by omega) rfl (Nat.le_of_ble_eq_true rfl) rfl) (fun x9 h9 => ogL_copy h9) rfl rfl rfl rfl rfl (by decide +kernel) (by omega) (by omega) (fun _ _ => rfl) (fun _ _ => rfl) (fun z786 g786 => ?_)
  refine aw_world (ws' := (WA r rq o z786.2.1 M z786.2.2 sv)) [14, 15, 16, 17, 18, 19, 20, 21, 22, 23, 24, 25, 26, 27, 28, 29, 30, 31, 32, 33, 34, 35, 36, 37, 38, 39, 40, 0, 1, 2, 3, 4, 5, 6, 7, 8, 9, 10, 11, 12, 13, 41] rfl rfl ?_
  refine aw_istore (q := 791) (lv' := [(5, .int z786.1), (0, .ref b), (1, .ref (r 0)), (2, .ref (rq 0)), (3, .ref o), (4, .int i)]) dL_law_789 rfl (by decide) rfl ?_
  refine aw_aload_n (q := 792) dL_law_791 rfl 3 rfl ?_
  refine aw_aload_n (q := 793) dL_law_792 rfl 1 rfl ?_
  refine aw_iload (q := 795) dL_law_793 rfl 5 rfl ?_
  refine aw_iconst (q := 796) (v := 1) dL_law_795 rfl (by decide) ?_
  refine aw_iadd (q := 797) dL_law_796 rfl ?_
  refine aw_sld (q := 798) dL_law_797 rfl ?_
  refine aw_aload_n (q := 799) dL_law_798 rfl 1 rfl ?_
  refine aw_iload (q := 801) dL_law_799 rfl 5 rfl ?_
  refine aw_iconst (q := 802) (v := 2) dL_law_801 rfl (by decide) ?_
  refine aw_iadd (q := 803) dL_law_802 rfl ?_
  refine aw_sld (q := 804) dL_law_803 rfl ?_
  refine aw_call (q := 807) (kc1 := kc + 298) (ks1 := ks + 16988) (wc := WM rq M) (wr := WX r z786.2.1 ++ [OC o z786.2.2 sv]) (st1 := fun z804 g804 => [.int z804.1]) (ws1 := fun z804 g804 => (WX r z786.2.1 ++ [OC o z786.2.2 sv]) ++ WM rq z804.2) (As := [.ref (rq 0), .int (xs (i + (1 : Int32)).toNatClampNeg), .int (xs (i + (2 : Int32)).toNatClampNeg)]) [27, 28, 29, 30, 31, 32, 33, 34, 35, 36, 37, 38, 39, 40] [0, 1, 2, 3, 4, 5, 6, 7, 8, 9, 10, 11, 12, 13, 14, 15, 16, 17, 18, 19, 20, 21, 22, 23, 24, 25, 26, 41] (fun _ => runV (q0 := 27) dL_law_804 mi_X7_copy im_X7_copy se_X7_copy ml_L_194 (by omega) rfl (Nat.le_of_ble_eq_true rfl) rfl rfl rfl rfl) (fun x9 h9 => ogM_copy h9) rfl rfl rfl rfl rfl (by decide +kernel) (by omega) (by omega) (fun _ _ => rfl) (fun _ _ => rfl) (fun z804 g804 => ?_)
  refine aw_world (ws' := (WA r rq o z786.2.1 z804.2 z786.2.2 sv)) [0, 1, 2, 3, 4, 5, 6, 7, 8, 9, 10, 11, 12, 13, 14, 15, 16, 17, 18, 19, 20, 21, 22, 23, 24, 25, 26, 28, 29, 30, 31, 32, 33, 34, 35, 36, 37, 38, 39, 40, 41, 27] rfl rfl ?_
  refine aw_istore (q := 809) (lv' := [(6, .int z804.1), (5, .int z786.1), (0, .ref b), (1, .ref (r 0)), (2, .ref (rq 0)), (3, .ref o), (4, .int i)]) dL_law_807 rfl (by decide) rfl ?_
  refine aw_goto (tgt := 2084) dL_law_809 (by decide) ?_
  refine aw_iinc (q := 2087) (v := (i + (6 : Int32))) (lv' := [(4, .int (i + (6 : Int32))), (6, .int z804.1), (5, .int z786.1), (0, .ref b), (1, .ref (r 0)), (2, .ref (rq 0)), (3, .ref o)]) dL_law_2084 rfl 6 rfl rfl (by decide) rfl ?_
  refine aw_goto (tgt := 27) dL_law_2087 (by decide) ?_
  refine aw_locals (lv' := [(0, .ref b), (1, .ref (r 0)), (2, .ref (rq 0)), (3, .ref o), (4, .int (i + (6 : Int32)))]) [3, 4, 5, 6, 0] rfl ?_
  refine aw_room (kc' := kc) (ks' := ks) (by omega) (by omega) ?_
  exact hk _ _ _ _ _
def flc_11 (N K L : Nat) (xs : Nat → Int32) (k : Int32 → CS → MS → Int64 → Option Int32) (i : Int32) (S : CS) (M : MS) (nv : Int64) : Option Int32 :=
  (if (i + (1 : Int32)) < 0 ∨ L ≤ (i + (1 : Int32)).toNatClampNeg then none else (if (i + (2 : Int32)) < 0 ∨ L ≤ (i + (2 : Int32)).toNatClampNeg then none else ((gL_pour N K S (xs (i + (1 : Int32)).toNatClampNeg) (xs (i + (2 : Int32)).toNatClampNeg) nv).bind (fun z826 => (if (i + (1 : Int32)) < 0 ∨ L ≤ (i + (1 : Int32)).toNatClampNeg then none else (if (i + (2 : Int32)) < 0 ∨ L ≤ (i + (2 : Int32)).toNatClampNeg then none else ((gM_pour N K M (xs (i + (1 : Int32)).toNatClampNeg) (xs (i + (2 : Int32)).toNatClampNeg)).bind (fun z844 => k (i + (6 : Int32)) z826.2.1 z844.2 z826.2.2))))))))
set_option maxHeartbeats 4000000 in
set_option maxRecDepth 100000 in
theorem tlc_11 {nm : String} {hh : List (Nat × Nat × Nat × Nat)} {N K b L kc ks : Nat} {xs : Nat → Int32} {r rq : Nat → Nat} {o : Nat} {k : Int32 → CS → MS → Int64 → Option Int32} (hk : ∀ (i : Int32) (S : CS) (M : MS) (nv : Int64) (sv : Value), AW RL nm cL_law 7 (some .boolean) hh (XS b L xs) (2 * K + 20) (PZ) kc ks (k i S M nv) 27 [(0, .ref b), (1, .ref (r 0)), (2, .ref (rq 0)), (3, .ref o), (4, .int i)] [] (WA r rq o S M nv sv)) (i : Int32) (S : CS) (M : MS) (nv : Int64) (sv : Value) : AW RL nm cL_law 7 (some .boolean) hh (XS b L xs) (2 * K + 20) (PZ) (kc + 300) (ks + 17000) (flc_11 N K L xs k i S M nv) 812 [(0, .ref b), (1, .ref (r 0)), (2, .ref (rq 0)), (3, .ref o), (4, .int i)] [] (WA r rq o S M nv sv) := by
  unfold flc_11
  refine aw_aload_n (q := 813) dL_law_812 rfl 1 rfl ?_
  refine aw_aload_n (q := 814) dL_law_813 rfl 0 rfl ?_
  refine aw_iload (q := 816) dL_law_814 rfl 4 rfl ?_
  refine aw_iconst (q := 817) (v := 1) dL_law_816 rfl (by decide) ?_
  refine aw_iadd (q := 818) dL_law_817 rfl ?_
  refine aw_sld (q := 819) dL_law_818 rfl ?_
  refine aw_aload_n (q := 820) dL_law_819 rfl 0 rfl ?_
  refine aw_iload (q := 822) dL_law_820 rfl 4 rfl ?_
  refine aw_iconst (q := 823) (v := 2) dL_law_822 rfl (by decide) ?_
  refine aw_iadd (q := 824) dL_law_823 rfl ?_
  refine aw_sld (q := 825) dL_law_824 rfl ?_
  refine aw_aload_n (q := 826) dL_law_825 rfl 3 rfl ?_
  refine aw_call (q := 829) (kc1 := kc + 298) (ks1 := ks + 16988) (wc := WX r S ++ [OC o nv sv]) (wr := WM rq M) (st1 := fun z826 g826 => [.int z826.1]) (ws1 := fun z826 g826 => WM rq M ++ (WX r z826.2.1 ++ [OC o z826.2.2 sv])) (As := [.ref (r 0), .int (xs (i + (1 : Int32)).toNatClampNeg), .int (xs (i + (2 : Int32)).toNatClampNeg), .ref o]) [0, 1, 2, 3, 4, 5, 6, 7, 8, 9, 10, 11, 12, 13, 14, 15, 16, 17, 18, 19, 20, 21, 22, 23, 24, 25, 26, 41] [27, 28, 29, 30, 31, 32, 33, 34, 35, 36, 37, 38, 39, 40] (fun _ => runSX dL_law_826 mix_L_pour st_L_pour ml_L_195 (by omega) rfl (Nat.le_of_ble_eq_true rfl) rfl) (fun x9 h9 => ogL_pour h9) rfl rfl rfl rfl rfl (by decide +kernel) (by omega) (by omega) (fun _ _ => rfl) (fun _ _ => rfl) (fun z826 g826 => ?_)
  refine aw_world (ws' := (WA r rq o z826.2.1 M z826.2.2 sv)) [14, 15, 16, 17, 18, 19, 20, 21, 22, 23, 24, 25, 26, 27, 28, 29, 30, 31, 32, 33, 34, 35, 36, 37, 38, 39, 40, 0, 1, 2, 3, 4, 5, 6, 7, 8, 9, 10, 11, 12, 13, 41] rfl rfl ?_
  refine aw_istore (q := 831) (lv' := [(5, .int z826.1), (0, .ref b), (1, .ref (r 0)), (2, .ref (rq 0)), (3, .ref o), (4, .int i)]) dL_law_829 rfl (by decide) rfl ?_
  refine aw_aload_n (q := 832) dL_law_831 rfl 3 rfl ?_
  refine aw_aload_n (q := 833) dL_law_832 rfl 1 rfl ?_
  refine aw_iload (q := 835) dL_law_833 rfl 5 rfl ?_
  refine aw_iconst (q := 836) (v := 1) dL_law_835 rfl (by decide) ?_
  refine aw_iadd (q := 837) dL_law_836 rfl ?_
  refine aw_sld (q := 838) dL_law_837 rfl ?_
  refine aw_aload_n (q := 839) dL_law_838 rfl 1 rfl ?_
  refine aw_iload (q := 841) dL_law_839 rfl 5 rfl ?_
  refine aw_iconst (q := 842) (v := 2) dL_law_841 rfl (by decide) ?_
  refine aw_iadd (q := 843) dL_law_842 rfl ?_
  refine aw_sld (q := 844) dL_law_843 rfl ?_
  refine aw_call (q := 847) (kc1 := kc + 298) (ks1 := ks + 16988) (wc := WM rq M) (wr := WX r z826.2.1 ++ [OC o z826.2.2 sv]) (st1 := fun z844 g844 => [.int z844.1]) (ws1 := fun z844 g844 => (WX r z826.2.1 ++ [OC o z826.2.2 sv]) ++ WM rq z844.2) (As := [.ref (rq 0), .int (xs (i + (1 : Int32)).toNatClampNeg), .int (xs (i + (2 : Int32)).toNatClampNeg)]) [27, 28, 29, 30, 31, 32, 33, 34, 35, 36, 37, 38, 39, 40] [0, 1, 2, 3, 4, 5, 6, 7, 8, 9, 10, 11, 12, 13, 14, 15, 16, 17, 18, 19, 20, 21, 22, 23, 24, 25, 26, 41] (fun _ => runV (q0 := 27) dL_law_844 mi_X7_pour im_X7_pour se_X7_pour ml_L_197 (by omega) rfl (Nat.le_of_ble_eq_true rfl) rfl rfl rfl rfl) (fun x9 h9 => ogM_pour h9) rfl rfl rfl rfl rfl (by decide +kernel) (by omega) (by omega) (fun _ _ => rfl) (fun _ _ => rfl) (fun z844 g844 => ?_)
  refine aw_world (ws' := (WA r rq o z826.2.1 z844.2 z826.2.2 sv)) [0, 1, 2, 3, 4, 5, 6, 7, 8, 9, 10, 11, 12, 13, 14, 15, 16, 17, 18, 19, 20, 21, 22, 23, 24, 25, 26, 28, 29, 30, 31, 32, 33, 34, 35, 36, 37, 38, 39, 40, 41, 27] rfl rfl ?_
  refine aw_istore (q := 849) (lv' := [(6, .int z844.1), (5, .int z826.1), (0, .ref b), (1, .ref (r 0)), (2, .ref (rq 0)), (3, .ref o), (4, .int i)]) dL_law_847 rfl (by decide) rfl ?_
  refine aw_goto (tgt := 2084) dL_law_849 (by decide) ?_
  refine aw_iinc (q := 2087) (v := (i + (6 : Int32))) (lv' := [(4, .int (i + (6 : Int32))), (6, .int z844.1), (5, .int z826.1), (0, .ref b), (1, .ref (r 0)), (2, .ref (rq 0)), (3, .ref o)]) dL_law_2084 rfl 6 rfl rfl (by decide) rfl ?_
  refine aw_goto (tgt := 27) dL_law_2087 (by decide) ?_
  refine aw_locals (lv' := [(0, .ref b), (1, .ref (r 0)), (2, .ref (rq 0)), (3, .ref o), (4, .int (i + (6 : Int32)))]) [3, 4, 5, 6, 0] rfl ?_
  refine aw_room (kc' := kc) (ks' := ks) (by omega) (by omega) ?_
  exact hk _ _ _ _ _
def flc_12 (N K L : Nat) (xs : Nat → Int32) (k : Int32 → CS → MS → Int64 → Option Int32) (i : Int32) (S : CS) (M : MS) (nv : Int64) : Option Int32 :=
  (if (i + (1 : Int32)) < 0 ∨ L ≤ (i + (1 : Int32)).toNatClampNeg then none else (if (i + (2 : Int32)) < 0 ∨ L ≤ (i + (2 : Int32)).toNatClampNeg then none else (if (i + (3 : Int32)) < 0 ∨ L ≤ (i + (3 : Int32)).toNatClampNeg then none else (if (i + (4 : Int32)) < 0 ∨ L ≤ (i + (4 : Int32)).toNatClampNeg then none else (if (i + (5 : Int32)) < 0 ∨ L ≤ (i + (5 : Int32)).toNatClampNeg then none else ((gL_isKept N K S (xs (i + (1 : Int32)).toNatClampNeg) (xs (i + (2 : Int32)).toNatClampNeg) (xs (i + (3 : Int32)).toNatClampNeg) (xs (i + (4 : Int32)).toNatClampNeg) (xs (i + (5 : Int32)).toNatClampNeg) nv).bind (fun z884 => (if (i + (1 : Int32)) < 0 ∨ L ≤ (i + (1 : Int32)).toNatClampNeg then none else (if (i + (2 : Int32)) < 0 ∨ L ≤ (i + (2 : Int32)).toNatClampNeg then none else (if (i + (3 : Int32)) < 0 ∨ L ≤ (i + (3 : Int32)).toNatClampNeg then none else (if (i + (4 : Int32)) < 0 ∨ L ≤ (i + (4 : Int32)).toNatClampNeg then none else (if (i + (5 : Int32)) < 0 ∨ L ≤ (i + (5 : Int32)).toNatClampNeg then none else ((gM_isKept N K M (xs (i + (1 : Int32)).toNatClampNeg) (xs (i + (2 : Int32)).toNatClampNeg) (xs (i + (3 : Int32)).toNatClampNeg) (xs (i + (4 : Int32)).toNatClampNeg) (xs (i + (5 : Int32)).toNatClampNeg)).bind (fun z920 => k (i + (6 : Int32)) z884.2.1 z920.2 z884.2.2))))))))))))))
set_option maxHeartbeats 4000000 in
set_option maxRecDepth 100000 in
theorem tlc_12 {nm : String} {hh : List (Nat × Nat × Nat × Nat)} {N K b L kc ks : Nat} {xs : Nat → Int32} {r rq : Nat → Nat} {o : Nat} {k : Int32 → CS → MS → Int64 → Option Int32} (hk : ∀ (i : Int32) (S : CS) (M : MS) (nv : Int64) (sv : Value), AW RL nm cL_law 7 (some .boolean) hh (XS b L xs) (2 * K + 20) (PZ) kc ks (k i S M nv) 27 [(0, .ref b), (1, .ref (r 0)), (2, .ref (rq 0)), (3, .ref o), (4, .int i)] [] (WA r rq o S M nv sv)) (i : Int32) (S : CS) (M : MS) (nv : Int64) (sv : Value) : AW RL nm cL_law 7 (some .boolean) hh (XS b L xs) (2 * K + 20) (PZ) (kc + 300) (ks + 17000) (flc_12 N K L xs k i S M nv) 852 [(0, .ref b), (1, .ref (r 0)), (2, .ref (rq 0)), (3, .ref o), (4, .int i)] [] (WA r rq o S M nv sv) := by
  unfold flc_12
  refine aw_aload_n (q := 853) dL_law_852 rfl 1 rfl ?_
  refine aw_aload_n (q := 854) dL_law_853 rfl 0 rfl ?_
  refine aw_iload (q := 856) dL_law_854 rfl 4 rfl ?_
  refine aw_iconst (q := 857) (v := 1) dL_law_856 rfl (by decide) ?_
  refine aw_iadd (q := 858) dL_law_857 rfl ?_
  refine aw_sld (q := 859) dL_law_858 rfl ?_
  refine aw_aload_n (q := 860) dL_law_859 rfl 0 rfl ?_
  refine aw_iload (q := 862) dL_law_860 rfl 4 rfl ?_
  refine aw_iconst (q := 863) (v := 2) dL_law_862 rfl (by decide) ?_
  refine aw_iadd (q := 864) dL_law_863 rfl ?_
  refine aw_sld (q := 865) dL_law_864 rfl ?_
  refine aw_aload_n (q := 866) dL_law_865 rfl 0 rfl ?_
  refine aw_iload (q := 868) dL_law_866 rfl 4 rfl ?_
  refine aw_iconst (q := 869) (v := 3) dL_law_868 rfl (by decide) ?_
  refine aw_iadd (q := 870) dL_law_869 rfl ?_
  refine aw_sld (q := 871) dL_law_870 rfl ?_
  refine aw_aload_n (q := 872) dL_law_871 rfl 0 rfl ?_
  refine aw_iload (q := 874) dL_law_872 rfl 4 rfl ?_
  refine aw_iconst (q := 875) (v := 4) dL_law_874 rfl (by decide) ?_
  refine aw_iadd (q := 876) dL_law_875 rfl ?_
  refine aw_sld (q := 877) dL_law_876 rfl ?_
  refine aw_aload_n (q := 878) dL_law_877 rfl 0 rfl ?_
  refine aw_iload (q := 880) dL_law_878 rfl 4 rfl ?_
  refine aw_iconst (q := 881) (v := 5) dL_law_880 rfl (by decide) ?_
  refine aw_iadd (q := 882) dL_law_881 rfl ?_
  refine aw_sld (q := 883) dL_law_882 rfl ?_
  refine aw_aload_n (q := 884) dL_law_883 rfl 3 rfl ?_
  refine aw_call (q := 887) (kc1 := kc + 295) (ks1 := ks + 16970) (wc := WX r S ++ [OC o nv sv]) (wr := WM rq M) (st1 := fun z884 g884 => [.int z884.1]) (ws1 := fun z884 g884 => WM rq M ++ (WX r z884.2.1 ++ [OC o z884.2.2 sv])) (As := [.ref (r 0), .int (xs (i + (1 : Int32)).toNatClampNeg), .int (xs (i + (2 : Int32)).toNatClampNeg), .int (xs (i + (3 : Int32)).toNatClampNeg), .int (xs (i + (4 : Int32)).toNatClampNeg), .int (xs (i + (5 : Int32)).toNatClampNeg), .ref o]) [0, 1, 2, 3, 4, 5, 6, 7, 8, 9, 10, 11, 12, 13, 14, 15, 16, 17, 18, 19, 20, 21, 22, 23, 24, 25, 26, 41] [27, 28, 29, 30, 31, 32, 33, 34, 35, 36, 37, 38, 39, 40] (fun _ => runSX dL_law_884 mix_L_isKept st_L_isKept ml_L_198 (by omega) rfl (Nat.le_of_ble_eq_true rfl) rfl) (fun x9 h9 => ogL_isKept h9) rfl rfl rfl rfl rfl (by decide +kernel) (by omega) (by omega) (fun _ _ => rfl) (fun _ _ => rfl) (fun z884 g884 => ?_)
  refine aw_world (ws' := (WA r rq o z884.2.1 M z884.2.2 sv)) [14, 15, 16, 17, 18, 19, 20, 21, 22, 23, 24, 25, 26, 27, 28, 29, 30, 31, 32, 33, 34, 35, 36, 37, 38, 39, 40, 0, 1, 2, 3, 4, 5, 6, 7, 8, 9, 10, 11, 12, 13, 41] rfl rfl ?_
  refine aw_istore (q := 889) (lv' := [(5, .int z884.1), (0, .ref b), (1, .ref (r 0)), (2, .ref (rq 0)), (3, .ref o), (4, .int i)]) dL_law_887 rfl (by decide) rfl ?_
  refine aw_aload_n (q := 890) dL_law_889 rfl 3 rfl ?_
  refine aw_aload_n (q := 891) dL_law_890 rfl 1 rfl ?_
  refine aw_iload (q := 893) dL_law_891 rfl 5 rfl ?_
  refine aw_iconst (q := 894) (v := 1) dL_law_893 rfl (by decide) ?_
  refine aw_iadd (q := 895) dL_law_894 rfl ?_
  refine aw_sld (q := 896) dL_law_895 rfl ?_
  refine aw_aload_n (q := 897) dL_law_896 rfl 1 rfl ?_
  refine aw_iload (q := 899) dL_law_897 rfl 5 rfl ?_
  refine aw_iconst (q := 900) (v := 2) dL_law_899 rfl (by decide) ?_
  refine aw_iadd (q := 901) dL_law_900 rfl ?_
  refine aw_sld (q := 902) dL_law_901 rfl ?_
  refine aw_aload_n (q := 903) dL_law_902 rfl 1 rfl ?_
  refine aw_iload (q := 905) dL_law_903 rfl 5 rfl ?_
  refine aw_iconst (q := 906) (v := 3) dL_law_905 rfl (by decide) ?_
  refine aw_iadd (q := 907) dL_law_906 rfl ?_
  refine aw_sld (q := 908) dL_law_907 rfl ?_
  refine aw_aload_n (q := 909) dL_law_908 rfl 1 rfl ?_
  refine aw_iload (q := 911) dL_law_909 rfl 5 rfl ?_
  refine aw_iconst (q := 912) (v := 4) dL_law_911 rfl (by decide) ?_
  refine aw_iadd (q := 913) dL_law_912 rfl ?_
  refine aw_sld (q := 914) dL_law_913 rfl ?_
  refine aw_aload_n (q := 915) dL_law_914 rfl 1 rfl ?_
  refine aw_iload (q := 917) dL_law_915 rfl 5 rfl ?_
  refine aw_iconst (q := 918) (v := 5) dL_law_917 rfl (by decide) ?_
  refine aw_iadd (q := 919) dL_law_918 rfl ?_
  refine aw_sld (q := 920) dL_law_919 rfl ?_
  refine aw_call (q := 923) (kc1 := kc + 295) (ks1 := ks + 16970) (wc := WM rq M) (wr := WX r z884.2.1 ++ [OC o z884.2.2 sv]) (st1 := fun z920 g920 => [.int z920.1]) (ws1 := fun z920 g920 => (WX r z884.2.1 ++ [OC o z884.2.2 sv]) ++ WM rq z920.2) (As := [.ref (rq 0), .int (xs (i + (1 : Int32)).toNatClampNeg), .int (xs (i + (2 : Int32)).toNatClampNeg), .int (xs (i + (3 : Int32)).toNatClampNeg), .int (xs (i + (4 : Int32)).toNatClampNeg), .int (xs (i + (5 : Int32)).toNatClampNeg)]) [27, 28, 29, 30, 31, 32, 33, 34, 35, 36, 37, 38, 39, 40] [0, 1, 2, 3, 4, 5, 6, 7, 8, 9, 10, 11, 12, 13, 14, 15, 16, 17, 18, 19, 20, 21, 22, 23, 24, 25, 26, 41] (fun _ => runV (q0 := 27) dL_law_920 mi_X7_isKept im_X7_isKept se_X7_isKept ml_L_200 (by omega) rfl (Nat.le_of_ble_eq_true rfl) rfl rfl rfl rfl) (fun x9 h9 => ogM_isKept h9) rfl rfl rfl rfl rfl (by decide +kernel) (by omega) (by omega) (fun _ _ => rfl) (fun _ _ => rfl) (fun z920 g920 => ?_)
  refine aw_world (ws' := (WA r rq o z884.2.1 z920.2 z884.2.2 sv)) [0, 1, 2, 3, 4, 5, 6, 7, 8, 9, 10, 11, 12, 13, 14, 15, 16, 17, 18, 19, 20, 21, 22, 23, 24, 25, 26, 28, 29, 30, 31, 32, 33, 34, 35, 36, 37, 38, 39, 40, 41, 27] rfl rfl ?_
  refine aw_istore (q := 925) (lv' := [(6, .int z920.1), (5, .int z884.1), (0, .ref b), (1, .ref (r 0)), (2, .ref (rq 0)), (3, .ref o), (4, .int i)]) dL_law_923 rfl (by decide) rfl ?_
  refine aw_goto (tgt := 2084) dL_law_925 (by decide) ?_
  refine aw_iinc (q := 2087) (v := (i + (6 : Int32))) (lv' := [(4, .int (i + (6 : Int32))), (6, .int z920.1), (5, .int z884.1), (0, .ref b), (1, .ref (r 0)), (2, .ref (rq 0)), (3, .ref o)]) dL_law_2084 rfl 6 rfl rfl (by decide) rfl ?_
  refine aw_goto (tgt := 27) dL_law_2087 (by decide) ?_
  refine aw_locals (lv' := [(0, .ref b), (1, .ref (r 0)), (2, .ref (rq 0)), (3, .ref o), (4, .int (i + (6 : Int32)))]) [3, 4, 5, 6, 0] rfl ?_
  refine aw_room (kc' := kc) (ks' := ks) (by omega) (by omega) ?_
  exact hk _ _ _ _ _
def flc_13 (N K L : Nat) (xs : Nat → Int32) (k : Int32 → CS → MS → Int64 → Option Int32) (i : Int32) (S : CS) (M : MS) (nv : Int64) : Option Int32 :=
  (if (i + (1 : Int32)) < 0 ∨ L ≤ (i + (1 : Int32)).toNatClampNeg then none else (if (i + (2 : Int32)) < 0 ∨ L ≤ (i + (2 : Int32)).toNatClampNeg then none else (if (i + (3 : Int32)) < 0 ∨ L ≤ (i + (3 : Int32)).toNatClampNeg then none else (if (i + (4 : Int32)) < 0 ∨ L ≤ (i + (4 : Int32)).toNatClampNeg then none else (if (i + (5 : Int32)) < 0 ∨ L ≤ (i + (5 : Int32)).toNatClampNeg then none else ((gL_worthOr N K S (xs (i + (1 : Int32)).toNatClampNeg) (xs (i + (2 : Int32)).toNatClampNeg) (xs (i + (3 : Int32)).toNatClampNeg) (xs (i + (4 : Int32)).toNatClampNeg) (xs (i + (5 : Int32)).toNatClampNeg) nv).bind (fun z960 => (if (i + (1 : Int32)) < 0 ∨ L ≤ (i + (1 : Int32)).toNatClampNeg then none else (if (i + (2 : Int32)) < 0 ∨ L ≤ (i + (2 : Int32)).toNatClampNeg then none else (if (i + (3 : Int32)) < 0 ∨ L ≤ (i + (3 : Int32)).toNatClampNeg then none else (if (i + (4 : Int32)) < 0 ∨ L ≤ (i + (4 : Int32)).toNatClampNeg then none else (if (i + (5 : Int32)) < 0 ∨ L ≤ (i + (5 : Int32)).toNatClampNeg then none else ((gM_worthOr N K M (xs (i + (1 : Int32)).toNatClampNeg) (xs (i + (2 : Int32)).toNatClampNeg) (xs (i + (3 : Int32)).toNatClampNeg) (xs (i + (4 : Int32)).toNatClampNeg) (xs (i + (5 : Int32)).toNatClampNeg)).bind (fun z996 => k (i + (6 : Int32)) z960.2.1 z996.2 z960.2.2))))))))))))))
set_option maxHeartbeats 4000000 in
set_option maxRecDepth 100000 in
theorem tlc_13 {nm : String} {hh : List (Nat × Nat × Nat × Nat)} {N K b L kc ks : Nat} {xs : Nat → Int32} {r rq : Nat → Nat} {o : Nat} {k : Int32 → CS → MS → Int64 → Option Int32} (hk : ∀ (i : Int32) (S : CS) (M : MS) (nv : Int64) (sv : Value), AW RL nm cL_law 7 (some .boolean) hh (XS b L xs) (2 * K + 20) (PZ) kc ks (k i S M nv) 27 [(0, .ref b), (1, .ref (r 0)), (2, .ref (rq 0)), (3, .ref o), (4, .int i)] [] (WA r rq o S M nv sv)) (i : Int32) (S : CS) (M : MS) (nv : Int64) (sv : Value) : AW RL nm cL_law 7 (some .boolean) hh (XS b L xs) (2 * K + 20) (PZ) (kc + 300) (ks + 17000) (flc_13 N K L xs k i S M nv) 928 [(0, .ref b), (1, .ref (r 0)), (2, .ref (rq 0)), (3, .ref o), (4, .int i)] [] (WA r rq o S M nv sv) := by
  unfold flc_13
  refine aw_aload_n (q := 929) dL_law_928 rfl 1 rfl ?_
  refine aw_aload_n (q := 930) dL_law_929 rfl 0 rfl ?_
  refine aw_iload (q := 932) dL_law_930 rfl 4 rfl ?_
  refine aw_iconst (q := 933) (v := 1) dL_law_932 rfl (by decide) ?_
  refine aw_iadd (q := 934) dL_law_933 rfl ?_
  refine aw_sld (q := 935) dL_law_934 rfl ?_
  refine aw_aload_n (q := 936) dL_law_935 rfl 0 rfl ?_
  refine aw_iload (q := 938) dL_law_936 rfl 4 rfl ?_
  refine aw_iconst (q := 939) (v := 2) dL_law_938 rfl (by decide) ?_
  refine aw_iadd (q := 940) dL_law_939 rfl ?_
  refine aw_sld (q := 941) dL_law_940 rfl ?_
  refine aw_aload_n (q := 942) dL_law_941 rfl 0 rfl ?_
  refine aw_iload (q := 944) dL_law_942 rfl 4 rfl ?_
  refine aw_iconst (q := 945) (v := 3) dL_law_944 rfl (by decide) ?_
  refine aw_iadd (q := 946) dL_law_945 rfl ?_
  refine aw_sld (q := 947) dL_law_946 rfl ?_
  refine aw_aload_n (q := 948) dL_law_947 rfl 0 rfl ?_
  refine aw_iload (q := 950) dL_law_948 rfl 4 rfl ?_
  refine aw_iconst (q := 951) (v := 4) dL_law_950 rfl (by decide) ?_
  refine aw_iadd (q := 952) dL_law_951 rfl ?_
  refine aw_sld (q := 953) dL_law_952 rfl ?_
  refine aw_aload_n (q := 954) dL_law_953 rfl 0 rfl ?_
  refine aw_iload (q := 956) dL_law_954 rfl 4 rfl ?_
  refine aw_iconst (q := 957) (v := 5) dL_law_956 rfl (by decide) ?_
  refine aw_iadd (q := 958) dL_law_957 rfl ?_
  refine aw_sld (q := 959) dL_law_958 rfl ?_
  refine aw_aload_n (q := 960) dL_law_959 rfl 3 rfl ?_
  refine aw_call (q := 963) (kc1 := kc + 296) (ks1 := ks + 16976) (wc := WX r S ++ [OC o nv sv]) (wr := WM rq M) (st1 := fun z960 g960 => [.int z960.1]) (ws1 := fun z960 g960 => WM rq M ++ (WX r z960.2.1 ++ [OC o z960.2.2 sv])) (As := [.ref (r 0), .int (xs (i + (1 : Int32)).toNatClampNeg), .int (xs (i + (2 : Int32)).toNatClampNeg), .int (xs (i + (3 : Int32)).toNatClampNeg), .int (xs (i + (4 : Int32)).toNatClampNeg), .int (xs (i + (5 : Int32)).toNatClampNeg), .ref o]) [0, 1, 2, 3, 4, 5, 6, 7, 8, 9, 10, 11, 12, 13, 14, 15, 16, 17, 18, 19, 20, 21, 22, 23, 24, 25, 26, 41] [27, 28, 29, 30, 31, 32, 33, 34, 35, 36, 37, 38, 39, 40] (fun _ => runSX dL_law_960 mix_L_worthOr st_L_worthOr ml_L_201 (by omega) rfl (Nat.le_of_ble_eq_true rfl) rfl) (fun x9 h9 => ogL_worthOr h9) rfl rfl rfl rfl rfl (by decide +kernel) (by omega) (by omega) (fun _ _ => rfl) (fun _ _ => rfl) (fun z960 g960 => ?_)
  refine aw_world (ws' := (WA r rq o z960.2.1 M z960.2.2 sv)) [14, 15, 16, 17, 18, 19, 20, 21, 22, 23, 24, 25, 26, 27, 28, 29, 30, 31, 32, 33, 34, 35, 36, 37, 38, 39, 40, 0, 1, 2, 3, 4, 5, 6, 7, 8, 9, 10, 11, 12, 13, 41] rfl rfl ?_
  refine aw_istore (q := 965) (lv' := [(5, .int z960.1), (0, .ref b), (1, .ref (r 0)), (2, .ref (rq 0)), (3, .ref o), (4, .int i)]) dL_law_963 rfl (by decide) rfl ?_
  refine aw_aload_n (q := 966) dL_law_965 rfl 3 rfl ?_
  refine aw_aload_n (q := 967) dL_law_966 rfl 1 rfl ?_
  refine aw_iload (q := 969) dL_law_967 rfl 5 rfl ?_
  refine aw_iconst (q := 970) (v := 1) dL_law_969 rfl (by decide) ?_
  refine aw_iadd (q := 971) dL_law_970 rfl ?_
  refine aw_sld (q := 972) dL_law_971 rfl ?_
  refine aw_aload_n (q := 973) dL_law_972 rfl 1 rfl ?_
  refine aw_iload (q := 975) dL_law_973 rfl 5 rfl ?_
  refine aw_iconst (q := 976) (v := 2) dL_law_975 rfl (by decide) ?_
  refine aw_iadd (q := 977) dL_law_976 rfl ?_
  refine aw_sld (q := 978) dL_law_977 rfl ?_
  refine aw_aload_n (q := 979) dL_law_978 rfl 1 rfl ?_
  refine aw_iload (q := 981) dL_law_979 rfl 5 rfl ?_
  refine aw_iconst (q := 982) (v := 3) dL_law_981 rfl (by decide) ?_
  refine aw_iadd (q := 983) dL_law_982 rfl ?_
  refine aw_sld (q := 984) dL_law_983 rfl ?_
  refine aw_aload_n (q := 985) dL_law_984 rfl 1 rfl ?_
  refine aw_iload (q := 987) dL_law_985 rfl 5 rfl ?_
  refine aw_iconst (q := 988) (v := 4) dL_law_987 rfl (by decide) ?_
  refine aw_iadd (q := 989) dL_law_988 rfl ?_
  refine aw_sld (q := 990) dL_law_989 rfl ?_
  refine aw_aload_n (q := 991) dL_law_990 rfl 1 rfl ?_
  refine aw_iload (q := 993) dL_law_991 rfl 5 rfl ?_
  refine aw_iconst (q := 994) (v := 5) dL_law_993 rfl (by decide) ?_
  refine aw_iadd (q := 995) dL_law_994 rfl ?_
  refine aw_sld (q := 996) dL_law_995 rfl ?_
  refine aw_call (q := 999) (kc1 := kc + 296) (ks1 := ks + 16976) (wc := WM rq M) (wr := WX r z960.2.1 ++ [OC o z960.2.2 sv]) (st1 := fun z996 g996 => [.int z996.1]) (ws1 := fun z996 g996 => (WX r z960.2.1 ++ [OC o z960.2.2 sv]) ++ WM rq z996.2) (As := [.ref (rq 0), .int (xs (i + (1 : Int32)).toNatClampNeg), .int (xs (i + (2 : Int32)).toNatClampNeg), .int (xs (i + (3 : Int32)).toNatClampNeg), .int (xs (i + (4 : Int32)).toNatClampNeg), .int (xs (i + (5 : Int32)).toNatClampNeg)]) [27, 28, 29, 30, 31, 32, 33, 34, 35, 36, 37, 38, 39, 40] [0, 1, 2, 3, 4, 5, 6, 7, 8, 9, 10, 11, 12, 13, 14, 15, 16, 17, 18, 19, 20, 21, 22, 23, 24, 25, 26, 41] (fun _ => runV (q0 := 27) dL_law_996 mi_X7_worthOr im_X7_worthOr se_X7_worthOr ml_L_203 (by omega) rfl (Nat.le_of_ble_eq_true rfl) rfl rfl rfl rfl) (fun x9 h9 => ogM_worthOr h9) rfl rfl rfl rfl rfl (by decide +kernel) (by omega) (by omega) (fun _ _ => rfl) (fun _ _ => rfl) (fun z996 g996 => ?_)
  refine aw_world (ws' := (WA r rq o z960.2.1 z996.2 z960.2.2 sv)) [0, 1, 2, 3, 4, 5, 6, 7, 8, 9, 10, 11, 12, 13, 14, 15, 16, 17, 18, 19, 20, 21, 22, 23, 24, 25, 26, 28, 29, 30, 31, 32, 33, 34, 35, 36, 37, 38, 39, 40, 41, 27] rfl rfl ?_
  refine aw_istore (q := 1001) (lv' := [(6, .int z996.1), (5, .int z960.1), (0, .ref b), (1, .ref (r 0)), (2, .ref (rq 0)), (3, .ref o), (4, .int i)]) dL_law_999 rfl (by decide) rfl ?_
  refine aw_goto (tgt := 2084) dL_law_1001 (by decide) ?_
  refine aw_iinc (q := 2087) (v := (i + (6 : Int32))) (lv' := [(4, .int (i + (6 : Int32))), (6, .int z996.1), (5, .int z960.1), (0, .ref b), (1, .ref (r 0)), (2, .ref (rq 0)), (3, .ref o)]) dL_law_2084 rfl 6 rfl rfl (by decide) rfl ?_
  refine aw_goto (tgt := 27) dL_law_2087 (by decide) ?_
  refine aw_locals (lv' := [(0, .ref b), (1, .ref (r 0)), (2, .ref (rq 0)), (3, .ref o), (4, .int (i + (6 : Int32)))]) [3, 4, 5, 6, 0] rfl ?_
  refine aw_room (kc' := kc) (ks' := ks) (by omega) (by omega) ?_
  exact hk _ _ _ _ _
def flc_14 (N K L : Nat) (xs : Nat → Int32) (k : Int32 → CS → MS → Int64 → Option Int32) (i : Int32) (S : CS) (M : MS) (nv : Int64) : Option Int32 :=
  (if (i + (1 : Int32)) < 0 ∨ L ≤ (i + (1 : Int32)).toNatClampNeg then none else (if (i + (2 : Int32)) < 0 ∨ L ≤ (i + (2 : Int32)).toNatClampNeg then none else (if (i + (3 : Int32)) < 0 ∨ L ≤ (i + (3 : Int32)).toNatClampNeg then none else (if (i + (4 : Int32)) < 0 ∨ L ≤ (i + (4 : Int32)).toNatClampNeg then none else (if (i + (5 : Int32)) < 0 ∨ L ≤ (i + (5 : Int32)).toNatClampNeg then none else ((gL_confirm N K S (xs (i + (1 : Int32)).toNatClampNeg) (xs (i + (2 : Int32)).toNatClampNeg) (xs (i + (3 : Int32)).toNatClampNeg) (xs (i + (4 : Int32)).toNatClampNeg) (xs (i + (5 : Int32)).toNatClampNeg) nv).bind (fun z1036 => (if (i + (1 : Int32)) < 0 ∨ L ≤ (i + (1 : Int32)).toNatClampNeg then none else (if (i + (2 : Int32)) < 0 ∨ L ≤ (i + (2 : Int32)).toNatClampNeg then none else (if (i + (3 : Int32)) < 0 ∨ L ≤ (i + (3 : Int32)).toNatClampNeg then none else (if (i + (4 : Int32)) < 0 ∨ L ≤ (i + (4 : Int32)).toNatClampNeg then none else (if (i + (5 : Int32)) < 0 ∨ L ≤ (i + (5 : Int32)).toNatClampNeg then none else ((gM_confirm N K M (xs (i + (1 : Int32)).toNatClampNeg) (xs (i + (2 : Int32)).toNatClampNeg) (xs (i + (3 : Int32)).toNatClampNeg) (xs (i + (4 : Int32)).toNatClampNeg) (xs (i + (5 : Int32)).toNatClampNeg)).bind (fun z1072 => k (i + (6 : Int32)) z1036.2.1 z1072.2 z1036.2.2))))))))))))))
set_option maxHeartbeats 4000000 in
set_option maxRecDepth 100000 in
theorem tlc_14 {nm : String} {hh : List (Nat × Nat × Nat × Nat)} {N K b L kc ks : Nat} {xs : Nat → Int32} {r rq : Nat → Nat} {o : Nat} {k : Int32 → CS → MS → Int64 → Option Int32} (hk : ∀ (i : Int32) (S : CS) (M : MS) (nv : Int64) (sv : Value), AW RL nm cL_law 7 (some .boolean) hh (XS b L xs) (2 * K + 20) (PZ) kc ks (k i S M nv) 27 [(0, .ref b), (1, .ref (r 0)), (2, .ref (rq 0)), (3, .ref o), (4, .int i)] [] (WA r rq o S M nv sv)) (i : Int32) (S : CS) (M : MS) (nv : Int64) (sv : Value) : AW RL nm cL_law 7 (some .boolean) hh (XS b L xs) (2 * K + 20) (PZ) (kc + 300) (ks + 17000) (flc_14 N K L xs k i S M nv) 1004 [(0, .ref b), (1, .ref (r 0)), (2, .ref (rq 0)), (3, .ref o), (4, .int i)] [] (WA r rq o S M nv sv) := by
  unfold flc_14
  refine aw_aload_n (q := 1005) dL_law_1004 rfl 1 rfl ?_
  refine aw_aload_n (q := 1006) dL_law_1005 rfl 0 rfl ?_
  refine aw_iload (q := 1008) dL_law_1006 rfl 4 rfl ?_
  refine aw_iconst (q := 1009) (v := 1) dL_law_1008 rfl (by decide) ?_
  refine aw_iadd (q := 1010) dL_law_1009 rfl ?_
  refine aw_sld (q := 1011) dL_law_1010 rfl ?_
  refine aw_aload_n (q := 1012) dL_law_1011 rfl 0 rfl ?_
  refine aw_iload (q := 1014) dL_law_1012 rfl 4 rfl ?_
  refine aw_iconst (q := 1015) (v := 2) dL_law_1014 rfl (by decide) ?_
  refine aw_iadd (q := 1016) dL_law_1015 rfl ?_
  refine aw_sld (q := 1017) dL_law_1016 rfl ?_
  refine aw_aload_n (q := 1018) dL_law_1017 rfl 0 rfl ?_
  refine aw_iload (q := 1020) dL_law_1018 rfl 4 rfl ?_
  refine aw_iconst (q := 1021) (v := 3) dL_law_1020 rfl (by decide) ?_
  refine aw_iadd (q := 1022) dL_law_1021 rfl ?_
  refine aw_sld (q := 1023) dL_law_1022 rfl ?_
  refine aw_aload_n (q := 1024) dL_law_1023 rfl 0 rfl ?_
  refine aw_iload (q := 1026) dL_law_1024 rfl 4 rfl ?_
  refine aw_iconst (q := 1027) (v := 4) dL_law_1026 rfl (by decide) ?_
  refine aw_iadd (q := 1028) dL_law_1027 rfl ?_
  refine aw_sld (q := 1029) dL_law_1028 rfl ?_
  refine aw_aload_n (q := 1030) dL_law_1029 rfl 0 rfl ?_
  refine aw_iload (q := 1032) dL_law_1030 rfl 4 rfl ?_
  refine aw_iconst (q := 1033) (v := 5) dL_law_1032 rfl (by decide) ?_
  refine aw_iadd (q := 1034) dL_law_1033 rfl ?_
  refine aw_sld (q := 1035) dL_law_1034 rfl ?_
  refine aw_aload_n (q := 1036) dL_law_1035 rfl 3 rfl ?_
  refine aw_call (q := 1039) (kc1 := kc + 296) (ks1 := ks + 16976) (wc := WX r S ++ [OC o nv sv]) (wr := WM rq M) (st1 := fun z1036 g1036 => [.int z1036.1]) (ws1 := fun z1036 g1036 => WM rq M ++ (WX r z1036.2.1 ++ [OC o z1036.2.2 sv])) (As := [.ref (r 0), .int (xs (i + (1 : Int32)).toNatClampNeg), .int (xs (i + (2 : Int32)).toNatClampNeg), .int (xs (i + (3 : Int32)).toNatClampNeg), .int (xs (i + (4 : Int32)).toNatClampNeg), .int (xs (i + (5 : Int32)).toNatClampNeg), .ref o]) [0, 1, 2, 3, 4, 5, 6, 7, 8, 9, 10, 11, 12, 13, 14, 15, 16, 17, 18, 19, 20, 21, 22, 23, 24, 25, 26, 41] [27, 28, 29, 30, 31, 32, 33, 34, 35, 36, 37, 38, 39, 40] (fun _ => runSX dL_law_1036 mix_L_confirm st_L_confirm ml_L_204 (by omega) rfl (Nat.le_of_ble_eq_true rfl) rfl) (fun x9 h9 => ogL_confirm h9) rfl rfl rfl rfl rfl (by decide +kernel) (by omega) (by omega) (fun _ _ => rfl) (fun _ _ => rfl) (fun z1036 g1036 => ?_)
  refine aw_world (ws' := (WA r rq o z1036.2.1 M z1036.2.2 sv)) [14, 15, 16, 17, 18, 19, 20, 21, 22, 23, 24, 25, 26, 27, 28, 29, 30, 31, 32, 33, 34, 35, 36, 37, 38, 39, 40, 0, 1, 2, 3, 4, 5, 6, 7, 8, 9, 10, 11, 12, 13, 41] rfl rfl ?_
  refine aw_istore (q := 1041) (lv' := [(5, .int z1036.1), (0, .ref b), (1, .ref (r 0)), (2, .ref (rq 0)), (3, .ref o), (4, .int i)]) dL_law_1039 rfl (by decide) rfl ?_
  refine aw_aload_n (q := 1042) dL_law_1041 rfl 3 rfl ?_
  refine aw_aload_n (q := 1043) dL_law_1042 rfl 1 rfl ?_
  refine aw_iload (q := 1045) dL_law_1043 rfl 5 rfl ?_
  refine aw_iconst (q := 1046) (v := 1) dL_law_1045 rfl (by decide) ?_
  refine aw_iadd (q := 1047) dL_law_1046 rfl ?_
  refine aw_sld (q := 1048) dL_law_1047 rfl ?_
  refine aw_aload_n (q := 1049) dL_law_1048 rfl 1 rfl ?_
  refine aw_iload (q := 1051) dL_law_1049 rfl 5 rfl ?_
  refine aw_iconst (q := 1052) (v := 2) dL_law_1051 rfl (by decide) ?_
  refine aw_iadd (q := 1053) dL_law_1052 rfl ?_
  refine aw_sld (q := 1054) dL_law_1053 rfl ?_
  refine aw_aload_n (q := 1055) dL_law_1054 rfl 1 rfl ?_
  refine aw_iload (q := 1057) dL_law_1055 rfl 5 rfl ?_
  refine aw_iconst (q := 1058) (v := 3) dL_law_1057 rfl (by decide) ?_
  refine aw_iadd (q := 1059) dL_law_1058 rfl ?_
  refine aw_sld (q := 1060) dL_law_1059 rfl ?_
  refine aw_aload_n (q := 1061) dL_law_1060 rfl 1 rfl ?_
  refine aw_iload (q := 1063) dL_law_1061 rfl 5 rfl ?_
  refine aw_iconst (q := 1064) (v := 4) dL_law_1063 rfl (by decide) ?_
  refine aw_iadd (q := 1065) dL_law_1064 rfl ?_
  refine aw_sld (q := 1066) dL_law_1065 rfl ?_
  refine aw_aload_n (q := 1067) dL_law_1066 rfl 1 rfl ?_
  refine aw_iload (q := 1069) dL_law_1067 rfl 5 rfl ?_
  refine aw_iconst (q := 1070) (v := 5) dL_law_1069 rfl (by decide) ?_
  refine aw_iadd (q := 1071) dL_law_1070 rfl ?_
  refine aw_sld (q := 1072) dL_law_1071 rfl ?_
  refine aw_call (q := 1075) (kc1 := kc + 296) (ks1 := ks + 16976) (wc := WM rq M) (wr := WX r z1036.2.1 ++ [OC o z1036.2.2 sv]) (st1 := fun z1072 g1072 => [.int z1072.1]) (ws1 := fun z1072 g1072 => (WX r z1036.2.1 ++ [OC o z1036.2.2 sv]) ++ WM rq z1072.2) (As := [.ref (rq 0), .int (xs (i + (1 : Int32)).toNatClampNeg), .int (xs (i + (2 : Int32)).toNatClampNeg), .int (xs (i + (3 : Int32)).toNatClampNeg), .int (xs (i + (4 : Int32)).toNatClampNeg), .int (xs (i + (5 : Int32)).toNatClampNeg)]) [27, 28, 29, 30, 31, 32, 33, 34, 35, 36, 37, 38, 39, 40] [0, 1, 2, 3, 4, 5, 6, 7, 8, 9, 10, 11, 12, 13, 14, 15, 16, 17, 18, 19, 20, 21, 22, 23, 24, 25, 26, 41] (fun _ => runV (q0 := 27) dL_law_1072 mi_X7_confirm im_X7_confirm se_X7_confirm ml_L_206 (by omega) rfl (Nat.le_of_ble_eq_true rfl) rfl rfl rfl rfl) (fun x9 h9 => ogM_confirm h9) rfl rfl rfl rfl rfl (by decide +kernel) (by omega) (by omega) (fun _ _ => rfl) (fun _ _ => rfl) (fun z1072 g1072 => ?_)
  refine aw_world (ws' := (WA r rq o z1036.2.1 z1072.2 z1036.2.2 sv)) [0, 1, 2, 3, 4, 5, 6, 7, 8, 9, 10, 11, 12, 13, 14, 15, 16, 17, 18, 19, 20, 21, 22, 23, 24, 25, 26, 28, 29, 30, 31, 32, 33, 34, 35, 36, 37, 38, 39, 40, 41, 27] rfl rfl ?_
  refine aw_istore (q := 1077) (lv' := [(6, .int z1072.1), (5, .int z1036.1), (0, .ref b), (1, .ref (r 0)), (2, .ref (rq 0)), (3, .ref o), (4, .int i)]) dL_law_1075 rfl (by decide) rfl ?_
  refine aw_goto (tgt := 2084) dL_law_1077 (by decide) ?_
  refine aw_iinc (q := 2087) (v := (i + (6 : Int32))) (lv' := [(4, .int (i + (6 : Int32))), (6, .int z1072.1), (5, .int z1036.1), (0, .ref b), (1, .ref (r 0)), (2, .ref (rq 0)), (3, .ref o)]) dL_law_2084 rfl 6 rfl rfl (by decide) rfl ?_
  refine aw_goto (tgt := 27) dL_law_2087 (by decide) ?_
  refine aw_locals (lv' := [(0, .ref b), (1, .ref (r 0)), (2, .ref (rq 0)), (3, .ref o), (4, .int (i + (6 : Int32)))]) [3, 4, 5, 6, 0] rfl ?_
  refine aw_room (kc' := kc) (ks' := ks) (by omega) (by omega) ?_
  exact hk _ _ _ _ _
def flc_15 (N K L : Nat) (xs : Nat → Int32) (k : Int32 → CS → MS → Int64 → Option Int32) (i : Int32) (S : CS) (M : MS) (nv : Int64) : Option Int32 :=
  (if (i + (1 : Int32)) < 0 ∨ L ≤ (i + (1 : Int32)).toNatClampNeg then none else (if (i + (2 : Int32)) < 0 ∨ L ≤ (i + (2 : Int32)).toNatClampNeg then none else ((gL_about N K S (xs (i + (1 : Int32)).toNatClampNeg) (xs (i + (2 : Int32)).toNatClampNeg) nv).bind (fun z1094 => (if (i + (1 : Int32)) < 0 ∨ L ≤ (i + (1 : Int32)).toNatClampNeg then none else (if (i + (2 : Int32)) < 0 ∨ L ≤ (i + (2 : Int32)).toNatClampNeg then none else ((gM_about N K M (xs (i + (1 : Int32)).toNatClampNeg) (xs (i + (2 : Int32)).toNatClampNeg)).bind (fun z1112 => k (i + (6 : Int32)) z1094.2.1 z1112.2 z1094.2.2))))))))
set_option maxHeartbeats 4000000 in
set_option maxRecDepth 100000 in
theorem tlc_15 {nm : String} {hh : List (Nat × Nat × Nat × Nat)} {N K b L kc ks : Nat} {xs : Nat → Int32} {r rq : Nat → Nat} {o : Nat} {k : Int32 → CS → MS → Int64 → Option Int32} (hk : ∀ (i : Int32) (S : CS) (M : MS) (nv : Int64) (sv : Value), AW RL nm cL_law 7 (some .boolean) hh (XS b L xs) (2 * K + 20) (PZ) kc ks (k i S M nv) 27 [(0, .ref b), (1, .ref (r 0)), (2, .ref (rq 0)), (3, .ref o), (4, .int i)] [] (WA r rq o S M nv sv)) (i : Int32) (S : CS) (M : MS) (nv : Int64) (sv : Value) : AW RL nm cL_law 7 (some .boolean) hh (XS b L xs) (2 * K + 20) (PZ) (kc + 300) (ks + 17000) (flc_15 N K L xs k i S M nv) 1080 [(0, .ref b), (1, .ref (r 0)), (2, .ref (rq 0)), (3, .ref o), (4, .int i)] [] (WA r rq o S M nv sv) := by
  unfold flc_15
  refine aw_aload_n (q := 1081) dL_law_1080 rfl 1 rfl ?_
  refine aw_aload_n (q := 1082) dL_law_1081 rfl 0 rfl ?_
  refine aw_iload (q := 1084) dL_law_1082 rfl 4 rfl ?_
  refine aw_iconst (q := 1085) (v := 1) dL_law_1084 rfl (by decide) ?_
  refine aw_iadd (q := 1086) dL_law_1085 rfl ?_
  refine aw_sld (q := 1087) dL_law_1086 rfl ?_
  refine aw_aload_n (q := 1088) dL_law_1087 rfl 0 rfl ?_
  refine aw_iload (q := 1090) dL_law_1088 rfl 4 rfl ?_
  refine aw_iconst (q := 1091) (v := 2) dL_law_1090 rfl (by decide) ?_
  refine aw_iadd (q := 1092) dL_law_1091 rfl ?_
  refine aw_sld (q := 1093) dL_law_1092 rfl ?_
  refine aw_aload_n (q := 1094) dL_law_1093 rfl 3 rfl ?_
  refine aw_call (q := 1097) (kc1 := kc + 298) (ks1 := ks + 16988) (wc := WX r S ++ [OC o nv sv]) (wr := WM rq M) (st1 := fun z1094 g1094 => [.int z1094.1]) (ws1 := fun z1094 g1094 => WM rq M ++ (WX r z1094.2.1 ++ [OC o z1094.2.2 sv])) (As := [.ref (r 0), .int (xs (i + (1 : Int32)).toNatClampNeg), .int (xs (i + (2 : Int32)).toNatClampNeg), .ref o]) [0, 1, 2, 3, 4, 5, 6, 7, 8, 9, 10, 11, 12, 13, 14, 15, 16, 17, 18, 19, 20, 21, 22, 23, 24, 25, 26, 41] [27, 28, 29, 30, 31, 32, 33, 34, 35, 36, 37, 38, 39, 40] (fun _ => runSX dL_law_1094 mix_L_about st_L_about ml_L_207 (by omega) rfl (Nat.le_of_ble_eq_true rfl) rfl) (fun x9 h9 => ogL_about h9) rfl rfl rfl rfl rfl (by decide +kernel) (by omega) (by omega) (fun _ _ => rfl) (fun _ _ => rfl) (fun z1094 g1094 => ?_)
  refine aw_world (ws' := (WA r rq o z1094.2.1 M z1094.2.2 sv)) [14, 15, 16, 17, 18, 19, 20, 21, 22, 23, 24, 25, 26, 27, 28, 29, 30, 31, 32, 33, 34, 35, 36, 37, 38, 39, 40, 0, 1, 2, 3, 4, 5, 6, 7, 8, 9, 10, 11, 12, 13, 41] rfl rfl ?_
  refine aw_istore (q := 1099) (lv' := [(5, .int z1094.1), (0, .ref b), (1, .ref (r 0)), (2, .ref (rq 0)), (3, .ref o), (4, .int i)]) dL_law_1097 rfl (by decide) rfl ?_
  refine aw_aload_n (q := 1100) dL_law_1099 rfl 3 rfl ?_
  refine aw_aload_n (q := 1101) dL_law_1100 rfl 1 rfl ?_
  refine aw_iload (q := 1103) dL_law_1101 rfl 5 rfl ?_
  refine aw_iconst (q := 1104) (v := 1) dL_law_1103 rfl (by decide) ?_
  refine aw_iadd (q := 1105) dL_law_1104 rfl ?_
  refine aw_sld (q := 1106) dL_law_1105 rfl ?_
  refine aw_aload_n (q := 1107) dL_law_1106 rfl 1 rfl ?_
  refine aw_iload (q := 1109) dL_law_1107 rfl 5 rfl ?_
  refine aw_iconst (q := 1110) (v := 2) dL_law_1109 rfl (by decide) ?_
  refine aw_iadd (q := 1111) dL_law_1110 rfl ?_
  refine aw_sld (q := 1112) dL_law_1111 rfl ?_
  refine aw_call (q := 1115) (kc1 := kc + 298) (ks1 := ks + 16988) (wc := WM rq M) (wr := WX r z1094.2.1 ++ [OC o z1094.2.2 sv]) (st1 := fun z1112 g1112 => [.int z1112.1]) (ws1 := fun z1112 g1112 => (WX r z1094.2.1 ++ [OC o z1094.2.2 sv]) ++ WM rq z1112.2) (As := [.ref (rq 0), .int (xs (i + (1 : Int32)).toNatClampNeg), .int (xs (i + (2 : Int32)).toNatClampNeg)]) [27, 28, 29, 30, 31, 32, 33, 34, 35, 36, 37, 38, 39, 40] [0, 1, 2, 3, 4, 5, 6, 7, 8, 9, 10, 11, 12, 13, 14, 15, 16, 17, 18, 19, 20, 21, 22, 23, 24, 25, 26, 41] (fun _ => runV (q0 := 27) dL_law_1112 mi_X7_about im_X7_about se_X7_about ml_L_209 (by omega) rfl (Nat.le_of_ble_eq_true rfl) rfl rfl rfl rfl) (fun x9 h9 => ogM_about h9) rfl rfl rfl rfl rfl (by decide +kernel) (by omega) (by omega) (fun _ _ => rfl) (fun _ _ => rfl) (fun z1112 g1112 => ?_)
  refine aw_world (ws' := (WA r rq o z1094.2.1 z1112.2 z1094.2.2 sv)) [0, 1, 2, 3, 4, 5, 6, 7, 8, 9, 10, 11, 12, 13, 14, 15, 16, 17, 18, 19, 20, 21, 22, 23, 24, 25, 26, 28, 29, 30, 31, 32, 33, 34, 35, 36, 37, 38, 39, 40, 41, 27] rfl rfl ?_
  refine aw_istore (q := 1117) (lv' := [(6, .int z1112.1), (5, .int z1094.1), (0, .ref b), (1, .ref (r 0)), (2, .ref (rq 0)), (3, .ref o), (4, .int i)]) dL_law_1115 rfl (by decide) rfl ?_
  refine aw_goto (tgt := 2084) dL_law_1117 (by decide) ?_
  refine aw_iinc (q := 2087) (v := (i + (6 : Int32))) (lv' := [(4, .int (i + (6 : Int32))), (6, .int z1112.1), (5, .int z1094.1), (0, .ref b), (1, .ref (r 0)), (2, .ref (rq 0)), (3, .ref o)]) dL_law_2084 rfl 6 rfl rfl (by decide) rfl ?_
  refine aw_goto (tgt := 27) dL_law_2087 (by decide) ?_
  refine aw_locals (lv' := [(0, .ref b), (1, .ref (r 0)), (2, .ref (rq 0)), (3, .ref o), (4, .int (i + (6 : Int32)))]) [3, 4, 5, 6, 0] rfl ?_
  refine aw_room (kc' := kc) (ks' := ks) (by omega) (by omega) ?_
  exact hk _ _ _ _ _
def flc_16 (N K L : Nat) (xs : Nat → Int32) (k : Int32 → CS → MS → Int64 → Option Int32) (i : Int32) (S : CS) (M : MS) (nv : Int64) : Option Int32 :=
  (if (i + (1 : Int32)) < 0 ∨ L ≤ (i + (1 : Int32)).toNatClampNeg then none else (if (i + (2 : Int32)) < 0 ∨ L ≤ (i + (2 : Int32)).toNatClampNeg then none else ((gL_has N K S (xs (i + (1 : Int32)).toNatClampNeg) (xs (i + (2 : Int32)).toNatClampNeg) nv).bind (fun z1134 => (if (i + (1 : Int32)) < 0 ∨ L ≤ (i + (1 : Int32)).toNatClampNeg then none else (if (i + (2 : Int32)) < 0 ∨ L ≤ (i + (2 : Int32)).toNatClampNeg then none else ((gM_has N K M (xs (i + (1 : Int32)).toNatClampNeg) (xs (i + (2 : Int32)).toNatClampNeg)).bind (fun z1152 => k (i + (6 : Int32)) z1134.2.1 z1152.2 z1134.2.2))))))))
set_option maxHeartbeats 4000000 in
set_option maxRecDepth 100000 in
theorem tlc_16 {nm : String} {hh : List (Nat × Nat × Nat × Nat)} {N K b L kc ks : Nat} {xs : Nat → Int32} {r rq : Nat → Nat} {o : Nat} {k : Int32 → CS → MS → Int64 → Option Int32} (hk : ∀ (i : Int32) (S : CS) (M : MS) (nv : Int64) (sv : Value), AW RL nm cL_law 7 (some .boolean) hh (XS b L xs) (2 * K + 20) (PZ) kc ks (k i S M nv) 27 [(0, .ref b), (1, .ref (r 0)), (2, .ref (rq 0)), (3, .ref o), (4, .int i)] [] (WA r rq o S M nv sv)) (i : Int32) (S : CS) (M : MS) (nv : Int64) (sv : Value) : AW RL nm cL_law 7 (some .boolean) hh (XS b L xs) (2 * K + 20) (PZ) (kc + 300) (ks + 17000) (flc_16 N K L xs k i S M nv) 1120 [(0, .ref b), (1, .ref (r 0)), (2, .ref (rq 0)), (3, .ref o), (4, .int i)] [] (WA r rq o S M nv sv) := by
  unfold flc_16
  refine aw_aload_n (q := 1121) dL_law_1120 rfl 1 rfl ?_
  refine aw_aload_n (q := 1122) dL_law_1121 rfl 0 rfl ?_
  refine aw_iload (q := 1124) dL_law_1122 rfl 4 rfl ?_
  refine aw_iconst (q := 1125) (v := 1) dL_law_1124 rfl (by decide) ?_
  refine aw_iadd (q := 1126) dL_law_1125 rfl ?_
  refine aw_sld (q := 1127) dL_law_1126 rfl ?_
  refine aw_aload_n (q := 1128) dL_law_1127 rfl 0 rfl ?_
  refine aw_iload (q := 1130) dL_law_1128 rfl 4 rfl ?_
  refine aw_iconst (q := 1131) (v := 2) dL_law_1130 rfl (by decide) ?_
  refine aw_iadd (q := 1132) dL_law_1131 rfl ?_
  refine aw_sld (q := 1133) dL_law_1132 rfl ?_
  refine aw_aload_n (q := 1134) dL_law_1133 rfl 3 rfl ?_
  refine aw_call (q := 1137) (kc1 := kc + 299) (ks1 := ks + 16994) (wc := WX r S ++ [OC o nv sv]) (wr := WM rq M) (st1 := fun z1134 g1134 => [.int z1134.1]) (ws1 := fun z1134 g1134 => WM rq M ++ (WX r z1134.2.1 ++ [OC o z1134.2.2 sv])) (As := [.ref (r 0), .int (xs (i + (1 : Int32)).toNatClampNeg), .int (xs (i + (2 : Int32)).toNatClampNeg), .ref o]) [0, 1, 2, 3, 4, 5, 6, 7, 8, 9, 10, 11, 12, 13, 14, 15, 16, 17, 18, 19, 20, 21, 22, 23, 24, 25, 26, 41] [27, 28, 29, 30, 31, 32, 33, 34, 35, 36, 37, 38, 39, 40] (fun _ => runSX dL_law_1134 mix_L_has st_L_has ml_L_210 (by omega) rfl (Nat.le_of_ble_eq_true rfl) rfl) (fun x9 h9 => ogL_has h9) rfl rfl rfl rfl rfl (by decide +kernel) (by omega) (by omega) (fun _ _ => rfl) (fun _ _ => rfl) (fun z1134 g1134 => ?_)
  refine aw_world (ws' := (WA r rq o z1134.2.1 M z1134.2.2 sv)) [14, 15, 16, 17, 18, 19, 20, 21, 22, 23, 24, 25, 26, 27, 28, 29, 30, 31, 32, 33, 34, 35, 36, 37, 38, 39, 40, 0, 1, 2, 3, 4, 5, 6, 7, 8, 9, 10, 11, 12, 13, 41] rfl rfl ?_
  refine aw_istore (q := 1139) (lv' := [(5, .int z1134.1), (0, .ref b), (1, .ref (r 0)), (2, .ref (rq 0)), (3, .ref o), (4, .int i)]) dL_law_1137 rfl (by decide) rfl ?_
  refine aw_aload_n (q := 1140) dL_law_1139 rfl 3 rfl ?_
  refine aw_aload_n (q := 1141) dL_law_1140 rfl 1 rfl ?_
  refine aw_iload (q := 1143) dL_law_1141 rfl 5 rfl ?_
  refine aw_iconst (q := 1144) (v := 1) dL_law_1143 rfl (by decide) ?_
  refine aw_iadd (q := 1145) dL_law_1144 rfl ?_
  refine aw_sld (q := 1146) dL_law_1145 rfl ?_
  refine aw_aload_n (q := 1147) dL_law_1146 rfl 1 rfl ?_
  refine aw_iload (q := 1149) dL_law_1147 rfl 5 rfl ?_
  refine aw_iconst (q := 1150) (v := 2) dL_law_1149 rfl (by decide) ?_
  refine aw_iadd (q := 1151) dL_law_1150 rfl ?_
  refine aw_sld (q := 1152) dL_law_1151 rfl ?_
  refine aw_call (q := 1155) (kc1 := kc + 299) (ks1 := ks + 16994) (wc := WM rq M) (wr := WX r z1134.2.1 ++ [OC o z1134.2.2 sv]) (st1 := fun z1152 g1152 => [.int z1152.1]) (ws1 := fun z1152 g1152 => (WX r z1134.2.1 ++ [OC o z1134.2.2 sv]) ++ WM rq z1152.2) (As := [.ref (rq 0), .int (xs (i + (1 : Int32)).toNatClampNeg), .int (xs (i + (2 : Int32)).toNatClampNeg)]) [27, 28, 29, 30, 31, 32, 33, 34, 35, 36, 37, 38, 39, 40] [0, 1, 2, 3, 4, 5, 6, 7, 8, 9, 10, 11, 12, 13, 14, 15, 16, 17, 18, 19, 20, 21, 22, 23, 24, 25, 26, 41] (fun _ => runV (q0 := 27) dL_law_1152 mi_X7_has im_X7_has se_X7_has ml_L_212 (by omega) rfl (Nat.le_of_ble_eq_true rfl) rfl rfl rfl rfl) (fun x9 h9 => ogM_has h9) rfl rfl rfl rfl rfl (by decide +kernel) (by omega) (by omega) (fun _ _ => rfl) (fun _ _ => rfl) (fun z1152 g1152 => ?_)
  refine aw_world (ws' := (WA r rq o z1134.2.1 z1152.2 z1134.2.2 sv)) [0, 1, 2, 3, 4, 5, 6, 7, 8, 9, 10, 11, 12, 13, 14, 15, 16, 17, 18, 19, 20, 21, 22, 23, 24, 25, 26, 28, 29, 30, 31, 32, 33, 34, 35, 36, 37, 38, 39, 40, 41, 27] rfl rfl ?_
  refine aw_istore (q := 1157) (lv' := [(6, .int z1152.1), (5, .int z1134.1), (0, .ref b), (1, .ref (r 0)), (2, .ref (rq 0)), (3, .ref o), (4, .int i)]) dL_law_1155 rfl (by decide) rfl ?_
  refine aw_goto (tgt := 2084) dL_law_1157 (by decide) ?_
  refine aw_iinc (q := 2087) (v := (i + (6 : Int32))) (lv' := [(4, .int (i + (6 : Int32))), (6, .int z1152.1), (5, .int z1134.1), (0, .ref b), (1, .ref (r 0)), (2, .ref (rq 0)), (3, .ref o)]) dL_law_2084 rfl 6 rfl rfl (by decide) rfl ?_
  refine aw_goto (tgt := 27) dL_law_2087 (by decide) ?_
  refine aw_locals (lv' := [(0, .ref b), (1, .ref (r 0)), (2, .ref (rq 0)), (3, .ref o), (4, .int (i + (6 : Int32)))]) [3, 4, 5, 6, 0] rfl ?_
  refine aw_room (kc' := kc) (ks' := ks) (by omega) (by omega) ?_
  exact hk _ _ _ _ _
def flc_17 (N K L : Nat) (xs : Nat → Int32) (k : Int32 → CS → MS → Int64 → Option Int32) (i : Int32) (S : CS) (M : MS) (nv : Int64) : Option Int32 :=
  (if (i + (1 : Int32)) < 0 ∨ L ≤ (i + (1 : Int32)).toNatClampNeg then none else (if (i + (2 : Int32)) < 0 ∨ L ≤ (i + (2 : Int32)).toNatClampNeg then none else (if (i + (3 : Int32)) < 0 ∨ L ≤ (i + (3 : Int32)).toNatClampNeg then none else ((gL_count N K S (xs (i + (1 : Int32)).toNatClampNeg) (xs (i + (2 : Int32)).toNatClampNeg) (xs (i + (3 : Int32)).toNatClampNeg) nv).bind (fun z1180 => (if (i + (1 : Int32)) < 0 ∨ L ≤ (i + (1 : Int32)).toNatClampNeg then none else (if (i + (2 : Int32)) < 0 ∨ L ≤ (i + (2 : Int32)).toNatClampNeg then none else (if (i + (3 : Int32)) < 0 ∨ L ≤ (i + (3 : Int32)).toNatClampNeg then none else ((gM_count N K M (xs (i + (1 : Int32)).toNatClampNeg) (xs (i + (2 : Int32)).toNatClampNeg) (xs (i + (3 : Int32)).toNatClampNeg)).bind (fun z1204 => k (i + (6 : Int32)) z1180.2.1 z1204.2 z1180.2.2))))))))))
set_option maxHeartbeats 4000000 in
set_option maxRecDepth 100000 in
theorem tlc_17 {nm : String} {hh : List (Nat × Nat × Nat × Nat)} {N K b L kc ks : Nat} {xs : Nat → Int32} {r rq : Nat → Nat} {o : Nat} {k : Int32 → CS → MS → Int64 → Option Int32} (hk : ∀ (i : Int32) (S : CS) (M : MS) (nv : Int64) (sv : Value), AW RL nm cL_law 7 (some .boolean) hh (XS b L xs) (2 * K + 20) (PZ) kc ks (k i S M nv) 27 [(0, .ref b), (1, .ref (r 0)), (2, .ref (rq 0)), (3, .ref o), (4, .int i)] [] (WA r rq o S M nv sv)) (i : Int32) (S : CS) (M : MS) (nv : Int64) (sv : Value) : AW RL nm cL_law 7 (some .boolean) hh (XS b L xs) (2 * K + 20) (PZ) (kc + 300) (ks + 17000) (flc_17 N K L xs k i S M nv) 1160 [(0, .ref b), (1, .ref (r 0)), (2, .ref (rq 0)), (3, .ref o), (4, .int i)] [] (WA r rq o S M nv sv) := by
  unfold flc_17
  refine aw_aload_n (q := 1161) dL_law_1160 rfl 1 rfl ?_
  refine aw_aload_n (q := 1162) dL_law_1161 rfl 0 rfl ?_
  refine aw_iload (q := 1164) dL_law_1162 rfl 4 rfl ?_
  refine aw_iconst (q := 1165) (v := 1) dL_law_1164 rfl (by decide) ?_
  refine aw_iadd (q := 1166) dL_law_1165 rfl ?_
  refine aw_sld (q := 1167) dL_law_1166 rfl ?_
  refine aw_aload_n (q := 1168) dL_law_1167 rfl 0 rfl ?_
  refine aw_iload (q := 1170) dL_law_1168 rfl 4 rfl ?_
  refine aw_iconst (q := 1171) (v := 2) dL_law_1170 rfl (by decide) ?_
  refine aw_iadd (q := 1172) dL_law_1171 rfl ?_
  refine aw_sld (q := 1173) dL_law_1172 rfl ?_
  refine aw_aload_n (q := 1174) dL_law_1173 rfl 0 rfl ?_
  refine aw_iload (q := 1176) dL_law_1174 rfl 4 rfl ?_
  refine aw_iconst (q := 1177) (v := 3) dL_law_1176 rfl (by decide) ?_
  refine aw_iadd (q := 1178) dL_law_1177 rfl ?_
  refine aw_sld (q := 1179) dL_law_1178 rfl ?_
  refine aw_aload_n (q := 1180) dL_law_1179 rfl 3 rfl ?_
  refine aw_call (q := 1183) (kc1 := kc + 298) (ks1 := ks + 16988) (wc := WX r S ++ [OC o nv sv]) (wr := WM rq M) (st1 := fun z1180 g1180 => [.int z1180.1]) (ws1 := fun z1180 g1180 => WM rq M ++ (WX r z1180.2.1 ++ [OC o z1180.2.2 sv])) (As := [.ref (r 0), .int (xs (i + (1 : Int32)).toNatClampNeg), .int (xs (i + (2 : Int32)).toNatClampNeg), .int (xs (i + (3 : Int32)).toNatClampNeg), .ref o]) [0, 1, 2, 3, 4, 5, 6, 7, 8, 9, 10, 11, 12, 13, 14, 15, 16, 17, 18, 19, 20, 21, 22, 23, 24, 25, 26, 41] [27, 28, 29, 30, 31, 32, 33, 34, 35, 36, 37, 38, 39, 40] (fun _ => runSX dL_law_1180 mix_L_count st_L_count ml_L_213 (by omega) rfl (Nat.le_of_ble_eq_true rfl) rfl) (fun x9 h9 => ogL_count h9) rfl rfl rfl rfl rfl (by decide +kernel) (by omega) (by omega) (fun _ _ => rfl) (fun _ _ => rfl) (fun z1180 g1180 => ?_)
  refine aw_world (ws' := (WA r rq o z1180.2.1 M z1180.2.2 sv)) [14, 15, 16, 17, 18, 19, 20, 21, 22, 23, 24, 25, 26, 27, 28, 29, 30, 31, 32, 33, 34, 35, 36, 37, 38, 39, 40, 0, 1, 2, 3, 4, 5, 6, 7, 8, 9, 10, 11, 12, 13, 41] rfl rfl ?_
  refine aw_istore (q := 1185) (lv' := [(5, .int z1180.1), (0, .ref b), (1, .ref (r 0)), (2, .ref (rq 0)), (3, .ref o), (4, .int i)]) dL_law_1183 rfl (by decide) rfl ?_
  refine aw_aload_n (q := 1186) dL_law_1185 rfl 3 rfl ?_
  refine aw_aload_n (q := 1187) dL_law_1186 rfl 1 rfl ?_
  refine aw_iload (q := 1189) dL_law_1187 rfl 5 rfl ?_
  refine aw_iconst (q := 1190) (v := 1) dL_law_1189 rfl (by decide) ?_
  refine aw_iadd (q := 1191) dL_law_1190 rfl ?_
  refine aw_sld (q := 1192) dL_law_1191 rfl ?_
  refine aw_aload_n (q := 1193) dL_law_1192 rfl 1 rfl ?_
  refine aw_iload (q := 1195) dL_law_1193 rfl 5 rfl ?_
  refine aw_iconst (q := 1196) (v := 2) dL_law_1195 rfl (by decide) ?_
  refine aw_iadd (q := 1197) dL_law_1196 rfl ?_
  refine aw_sld (q := 1198) dL_law_1197 rfl ?_
  refine aw_aload_n (q := 1199) dL_law_1198 rfl 1 rfl ?_
  refine aw_iload (q := 1201) dL_law_1199 rfl 5 rfl ?_
  refine aw_iconst (q := 1202) (v := 3) dL_law_1201 rfl (by decide) ?_
  refine aw_iadd (q := 1203) dL_law_1202 rfl ?_
  refine aw_sld (q := 1204) dL_law_1203 rfl ?_
  refine aw_call (q := 1207) (kc1 := kc + 298) (ks1 := ks + 16988) (wc := WM rq M) (wr := WX r z1180.2.1 ++ [OC o z1180.2.2 sv]) (st1 := fun z1204 g1204 => [.int z1204.1]) (ws1 := fun z1204 g1204 => (WX r z1180.2.1 ++ [OC o z1180.2.2 sv]) ++ WM rq z1204.2) (As := [.ref (rq 0), .int (xs (i + (1 : Int32)).toNatClampNeg), .int (xs (i + (2 : Int32)).toNatClampNeg), .int (xs (i + (3 : Int32)).toNatClampNeg)]) [27, 28, 29, 30, 31, 32, 33, 34, 35, 36, 37, 38, 39, 40] [0, 1, 2, 3, 4, 5, 6, 7, 8, 9, 10, 11, 12, 13, 14, 15, 16, 17, 18, 19, 20, 21, 22, 23, 24, 25, 26, 41] (fun _ => runV (q0 := 27) dL_law_1204 mi_X7_count im_X7_count se_X7_count ml_L_215 (by omega) rfl (Nat.le_of_ble_eq_true rfl) rfl rfl rfl rfl) (fun x9 h9 => ogM_count h9) rfl rfl rfl rfl rfl (by decide +kernel) (by omega) (by omega) (fun _ _ => rfl) (fun _ _ => rfl) (fun z1204 g1204 => ?_)
  refine aw_world (ws' := (WA r rq o z1180.2.1 z1204.2 z1180.2.2 sv)) [0, 1, 2, 3, 4, 5, 6, 7, 8, 9, 10, 11, 12, 13, 14, 15, 16, 17, 18, 19, 20, 21, 22, 23, 24, 25, 26, 28, 29, 30, 31, 32, 33, 34, 35, 36, 37, 38, 39, 40, 41, 27] rfl rfl ?_
  refine aw_istore (q := 1209) (lv' := [(6, .int z1204.1), (5, .int z1180.1), (0, .ref b), (1, .ref (r 0)), (2, .ref (rq 0)), (3, .ref o), (4, .int i)]) dL_law_1207 rfl (by decide) rfl ?_
  refine aw_goto (tgt := 2084) dL_law_1209 (by decide) ?_
  refine aw_iinc (q := 2087) (v := (i + (6 : Int32))) (lv' := [(4, .int (i + (6 : Int32))), (6, .int z1204.1), (5, .int z1180.1), (0, .ref b), (1, .ref (r 0)), (2, .ref (rq 0)), (3, .ref o)]) dL_law_2084 rfl 6 rfl rfl (by decide) rfl ?_
  refine aw_goto (tgt := 27) dL_law_2087 (by decide) ?_
  refine aw_locals (lv' := [(0, .ref b), (1, .ref (r 0)), (2, .ref (rq 0)), (3, .ref o), (4, .int (i + (6 : Int32)))]) [3, 4, 5, 6, 0] rfl ?_
  refine aw_room (kc' := kc) (ks' := ks) (by omega) (by omega) ?_
  exact hk _ _ _ _ _
def flc_18 (N K L : Nat) (xs : Nat → Int32) (k : Int32 → CS → MS → Int64 → Option Int32) (i : Int32) (S : CS) (M : MS) (nv : Int64) : Option Int32 :=
  (if (i + (1 : Int32)) < 0 ∨ L ≤ (i + (1 : Int32)).toNatClampNeg then none else (if (i + (2 : Int32)) < 0 ∨ L ≤ (i + (2 : Int32)).toNatClampNeg then none else ((gL_isSame N K S (xs (i + (1 : Int32)).toNatClampNeg) (xs (i + (2 : Int32)).toNatClampNeg) nv).bind (fun z1226 => (if (i + (1 : Int32)) < 0 ∨ L ≤ (i + (1 : Int32)).toNatClampNeg then none else (if (i + (2 : Int32)) < 0 ∨ L ≤ (i + (2 : Int32)).toNatClampNeg then none else ((gM_isSame N K M (xs (i + (1 : Int32)).toNatClampNeg) (xs (i + (2 : Int32)).toNatClampNeg)).bind (fun z1244 => k (i + (6 : Int32)) z1226.2.1 z1244.2 z1226.2.2))))))))
set_option maxHeartbeats 4000000 in
set_option maxRecDepth 100000 in
theorem tlc_18 {nm : String} {hh : List (Nat × Nat × Nat × Nat)} {N K b L kc ks : Nat} {xs : Nat → Int32} {r rq : Nat → Nat} {o : Nat} {k : Int32 → CS → MS → Int64 → Option Int32} (hk : ∀ (i : Int32) (S : CS) (M : MS) (nv : Int64) (sv : Value), AW RL nm cL_law 7 (some .boolean) hh (XS b L xs) (2 * K + 20) (PZ) kc ks (k i S M nv) 27 [(0, .ref b), (1, .ref (r 0)), (2, .ref (rq 0)), (3, .ref o), (4, .int i)] [] (WA r rq o S M nv sv)) (i : Int32) (S : CS) (M : MS) (nv : Int64) (sv : Value) : AW RL nm cL_law 7 (some .boolean) hh (XS b L xs) (2 * K + 20) (PZ) (kc + 300) (ks + 17000) (flc_18 N K L xs k i S M nv) 1212 [(0, .ref b), (1, .ref (r 0)), (2, .ref (rq 0)), (3, .ref o), (4, .int i)] [] (WA r rq o S M nv sv) := by
  unfold flc_18
  refine aw_aload_n (q := 1213) dL_law_1212 rfl 1 rfl ?_
  refine aw_aload_n (q := 1214) dL_law_1213 rfl 0 rfl ?_
  refine aw_iload (q := 1216) dL_law_1214 rfl 4 rfl ?_
  refine aw_iconst (q := 1217) (v := 1) dL_law_1216 rfl (by decide) ?_
  refine aw_iadd (q := 1218) dL_law_1217 rfl ?_
  refine aw_sld (q := 1219) dL_law_1218 rfl ?_
  refine aw_aload_n (q := 1220) dL_law_1219 rfl 0 rfl ?_
  refine aw_iload (q := 1222) dL_law_1220 rfl 4 rfl ?_
  refine aw_iconst (q := 1223) (v := 2) dL_law_1222 rfl (by decide) ?_
  refine aw_iadd (q := 1224) dL_law_1223 rfl ?_
  refine aw_sld (q := 1225) dL_law_1224 rfl ?_
  refine aw_aload_n (q := 1226) dL_law_1225 rfl 3 rfl ?_
  refine aw_call (q := 1229) (kc1 := kc + 298) (ks1 := ks + 16988) (wc := WX r S ++ [OC o nv sv]) (wr := WM rq M) (st1 := fun z1226 g1226 => [.int z1226.1]) (ws1 := fun z1226 g1226 => WM rq M ++ (WX r z1226.2.1 ++ [OC o z1226.2.2 sv])) (As := [.ref (r 0), .int (xs (i + (1 : Int32)).toNatClampNeg), .int (xs (i + (2 : Int32)).toNatClampNeg), .ref o]) [0, 1, 2, 3, 4, 5, 6, 7, 8, 9, 10, 11, 12, 13, 14, 15, 16, 17, 18, 19, 20, 21, 22, 23, 24, 25, 26, 41] [27, 28, 29, 30, 31, 32, 33, 34, 35, 36, 37, 38, 39, 40] (fun _ => runSX dL_law_1226 mix_L_isSame st_L_isSame ml_L_216 (by omega) rfl (Nat.le_of_ble_eq_true rfl) rfl) (fun x9 h9 => ogL_isSame h9) rfl rfl rfl rfl rfl (by decide +kernel) (by omega) (by omega) (fun _ _ => rfl) (fun _ _ => rfl) (fun z1226 g1226 => ?_)
  refine aw_world (ws' := (WA r rq o z1226.2.1 M z1226.2.2 sv)) [14, 15, 16, 17, 18, 19, 20, 21, 22, 23, 24, 25, 26, 27, 28, 29, 30, 31, 32, 33, 34, 35, 36, 37, 38, 39, 40, 0, 1, 2, 3, 4, 5, 6, 7, 8, 9, 10, 11, 12, 13, 41] rfl rfl ?_
  refine aw_istore (q := 1231) (lv' := [(5, .int z1226.1), (0, .ref b), (1, .ref (r 0)), (2, .ref (rq 0)), (3, .ref o), (4, .int i)]) dL_law_1229 rfl (by decide) rfl ?_
  refine aw_aload_n (q := 1232) dL_law_1231 rfl 3 rfl ?_
  refine aw_aload_n (q := 1233) dL_law_1232 rfl 1 rfl ?_
  refine aw_iload (q := 1235) dL_law_1233 rfl 5 rfl ?_
  refine aw_iconst (q := 1236) (v := 1) dL_law_1235 rfl (by decide) ?_
  refine aw_iadd (q := 1237) dL_law_1236 rfl ?_
  refine aw_sld (q := 1238) dL_law_1237 rfl ?_
  refine aw_aload_n (q := 1239) dL_law_1238 rfl 1 rfl ?_
  refine aw_iload (q := 1241) dL_law_1239 rfl 5 rfl ?_
  refine aw_iconst (q := 1242) (v := 2) dL_law_1241 rfl (by decide) ?_
  refine aw_iadd (q := 1243) dL_law_1242 rfl ?_
  refine aw_sld (q := 1244) dL_law_1243 rfl ?_
  refine aw_call (q := 1247) (kc1 := kc + 298) (ks1 := ks + 16988) (wc := WM rq M) (wr := WX r z1226.2.1 ++ [OC o z1226.2.2 sv]) (st1 := fun z1244 g1244 => [.int z1244.1]) (ws1 := fun z1244 g1244 => (WX r z1226.2.1 ++ [OC o z1226.2.2 sv]) ++ WM rq z1244.2) (As := [.ref (rq 0), .int (xs (i + (1 : Int32)).toNatClampNeg), .int (xs (i + (2 : Int32)).toNatClampNeg)]) [27, 28, 29, 30, 31, 32, 33, 34, 35, 36, 37, 38, 39, 40] [0, 1, 2, 3, 4, 5, 6, 7, 8, 9, 10, 11, 12, 13, 14, 15, 16, 17, 18, 19, 20, 21, 22, 23, 24, 25, 26, 41] (fun _ => runV (q0 := 27) dL_law_1244 mi_X7_isSame im_X7_isSame se_X7_isSame ml_L_218 (by omega) rfl (Nat.le_of_ble_eq_true rfl) rfl rfl rfl rfl) (fun x9 h9 => ogM_isSame h9) rfl rfl rfl rfl rfl (by decide +kernel) (by omega) (by omega) (fun _ _ => rfl) (fun _ _ => rfl) (fun z1244 g1244 => ?_)
  refine aw_world (ws' := (WA r rq o z1226.2.1 z1244.2 z1226.2.2 sv)) [0, 1, 2, 3, 4, 5, 6, 7, 8, 9, 10, 11, 12, 13, 14, 15, 16, 17, 18, 19, 20, 21, 22, 23, 24, 25, 26, 28, 29, 30, 31, 32, 33, 34, 35, 36, 37, 38, 39, 40, 41, 27] rfl rfl ?_
  refine aw_istore (q := 1249) (lv' := [(6, .int z1244.1), (5, .int z1226.1), (0, .ref b), (1, .ref (r 0)), (2, .ref (rq 0)), (3, .ref o), (4, .int i)]) dL_law_1247 rfl (by decide) rfl ?_
  refine aw_goto (tgt := 2084) dL_law_1249 (by decide) ?_
  refine aw_iinc (q := 2087) (v := (i + (6 : Int32))) (lv' := [(4, .int (i + (6 : Int32))), (6, .int z1244.1), (5, .int z1226.1), (0, .ref b), (1, .ref (r 0)), (2, .ref (rq 0)), (3, .ref o)]) dL_law_2084 rfl 6 rfl rfl (by decide) rfl ?_
  refine aw_goto (tgt := 27) dL_law_2087 (by decide) ?_
  refine aw_locals (lv' := [(0, .ref b), (1, .ref (r 0)), (2, .ref (rq 0)), (3, .ref o), (4, .int (i + (6 : Int32)))]) [3, 4, 5, 6, 0] rfl ?_
  refine aw_room (kc' := kc) (ks' := ks) (by omega) (by omega) ?_
  exact hk _ _ _ _ _
def flc_19 (N K L : Nat) (xs : Nat → Int32) (k : Int32 → CS → MS → Int64 → Option Int32) (i : Int32) (S : CS) (M : MS) (nv : Int64) : Option Int32 :=
  (if (i + (1 : Int32)) < 0 ∨ L ≤ (i + (1 : Int32)).toNatClampNeg then none else (if (i + (2 : Int32)) < 0 ∨ L ≤ (i + (2 : Int32)).toNatClampNeg then none else (if (i + (3 : Int32)) < 0 ∨ L ≤ (i + (3 : Int32)).toNatClampNeg then none else ((gL_walk N K S (xs (i + (1 : Int32)).toNatClampNeg) (xs (i + (2 : Int32)).toNatClampNeg) (xs (i + (3 : Int32)).toNatClampNeg) nv).bind (fun z1272 => (if (i + (1 : Int32)) < 0 ∨ L ≤ (i + (1 : Int32)).toNatClampNeg then none else (if (i + (2 : Int32)) < 0 ∨ L ≤ (i + (2 : Int32)).toNatClampNeg then none else (if (i + (3 : Int32)) < 0 ∨ L ≤ (i + (3 : Int32)).toNatClampNeg then none else ((gM_walk N K M (xs (i + (1 : Int32)).toNatClampNeg) (xs (i + (2 : Int32)).toNatClampNeg) (xs (i + (3 : Int32)).toNatClampNeg)).bind (fun z1296 => k (i + (6 : Int32)) z1272.2.1 z1296.2 z1272.2.2))))))))))
set_option maxHeartbeats 4000000 in
set_option maxRecDepth 100000 in
theorem tlc_19 {nm : String} {hh : List (Nat × Nat × Nat × Nat)} {N K b L kc ks : Nat} {xs : Nat → Int32} {r rq : Nat → Nat} {o : Nat} {k : Int32 → CS → MS → Int64 → Option Int32} (hk : ∀ (i : Int32) (S : CS) (M : MS) (nv : Int64) (sv : Value), AW RL nm cL_law 7 (some .boolean) hh (XS b L xs) (2 * K + 20) (PZ) kc ks (k i S M nv) 27 [(0, .ref b), (1, .ref (r 0)), (2, .ref (rq 0)), (3, .ref o), (4, .int i)] [] (WA r rq o S M nv sv)) (i : Int32) (S : CS) (M : MS) (nv : Int64) (sv : Value) : AW RL nm cL_law 7 (some .boolean) hh (XS b L xs) (2 * K + 20) (PZ) (kc + 300) (ks + 17000) (flc_19 N K L xs k i S M nv) 1252 [(0, .ref b), (1, .ref (r 0)), (2, .ref (rq 0)), (3, .ref o), (4, .int i)] [] (WA r rq o S M nv sv) := by
  unfold flc_19
  refine aw_aload_n (q := 1253) dL_law_1252 rfl 1 rfl ?_
  refine aw_aload_n (q := 1254) dL_law_1253 rfl 0 rfl ?_
  refine aw_iload (q := 1256) dL_law_1254 rfl 4 rfl ?_
  refine aw_iconst (q := 1257) (v := 1) dL_law_1256 rfl (by decide) ?_
  refine aw_iadd (q := 1258) dL_law_1257 rfl ?_
  refine aw_sld (q := 1259) dL_law_1258 rfl ?_
  refine aw_aload_n (q := 1260) dL_law_1259 rfl 0 rfl ?_
  refine aw_iload (q := 1262) dL_law_1260 rfl 4 rfl ?_
  refine aw_iconst (q := 1263) (v := 2) dL_law_1262 rfl (by decide) ?_
  refine aw_iadd (q := 1264) dL_law_1263 rfl ?_
  refine aw_sld (q := 1265) dL_law_1264 rfl ?_
  refine aw_aload_n (q := 1266) dL_law_1265 rfl 0 rfl ?_
  refine aw_iload (q := 1268) dL_law_1266 rfl 4 rfl ?_
  refine aw_iconst (q := 1269) (v := 3) dL_law_1268 rfl (by decide) ?_
  refine aw_iadd (q := 1270) dL_law_1269 rfl ?_
  refine aw_sld (q := 1271) dL_law_1270 rfl ?_
  refine aw_aload_n (q := 1272) dL_law_1271 rfl 3 rfl ?_
  refine aw_call (q := 1275) (kc1 := kc + 297) (ks1 := ks + 16982) (wc := WX r S ++ [OC o nv sv]) (wr := WM rq M) (st1 := fun z1272 g1272 => [.int z1272.1]) (ws1 := fun z1272 g1272 => WM rq M ++ (WX r z1272.2.1 ++ [OC o z1272.2.2 sv])) (As := [.ref (r 0), .int (xs (i + (1 : Int32)).toNatClampNeg), .int (xs (i + (2 : Int32)).toNatClampNeg), .int (xs (i + (3 : Int32)).toNatClampNeg), .ref o]) [0, 1, 2, 3, 4, 5, 6, 7, 8, 9, 10, 11, 12, 13, 14, 15, 16, 17, 18, 19, 20, 21, 22, 23, 24, 25, 26, 41] [27, 28, 29, 30, 31, 32, 33, 34, 35, 36, 37, 38, 39, 40] (fun _ => runSX dL_law_1272 mix_L_walk st_L_walk ml_L_219 (by omega) rfl (Nat.le_of_ble_eq_true rfl) rfl) (fun x9 h9 => ogL_walk h9) rfl rfl rfl rfl rfl (by decide +kernel) (by omega) (by omega) (fun _ _ => rfl) (fun _ _ => rfl) (fun z1272 g1272 => ?_)
  refine aw_world (ws' := (WA r rq o z1272.2.1 M z1272.2.2 sv)) [14, 15, 16, 17, 18, 19, 20, 21, 22, 23, 24, 25, 26, 27, 28, 29, 30, 31, 32, 33, 34, 35, 36, 37, 38, 39, 40, 0, 1, 2, 3, 4, 5, 6, 7, 8, 9, 10, 11, 12, 13, 41] rfl rfl ?_
  refine aw_istore (q := 1277) (lv' := [(5, .int z1272.1), (0, .ref b), (1, .ref (r 0)), (2, .ref (rq 0)), (3, .ref o), (4, .int i)]) dL_law_1275 rfl (by decide) rfl ?_
  refine aw_aload_n (q := 1278) dL_law_1277 rfl 3 rfl ?_
  refine aw_aload_n (q := 1279) dL_law_1278 rfl 1 rfl ?_
  refine aw_iload (q := 1281) dL_law_1279 rfl 5 rfl ?_
  refine aw_iconst (q := 1282) (v := 1) dL_law_1281 rfl (by decide) ?_
  refine aw_iadd (q := 1283) dL_law_1282 rfl ?_
  refine aw_sld (q := 1284) dL_law_1283 rfl ?_
  refine aw_aload_n (q := 1285) dL_law_1284 rfl 1 rfl ?_
  refine aw_iload (q := 1287) dL_law_1285 rfl 5 rfl ?_
  refine aw_iconst (q := 1288) (v := 2) dL_law_1287 rfl (by decide) ?_
  refine aw_iadd (q := 1289) dL_law_1288 rfl ?_
  refine aw_sld (q := 1290) dL_law_1289 rfl ?_
  refine aw_aload_n (q := 1291) dL_law_1290 rfl 1 rfl ?_
  refine aw_iload (q := 1293) dL_law_1291 rfl 5 rfl ?_
  refine aw_iconst (q := 1294) (v := 3) dL_law_1293 rfl (by decide) ?_
  refine aw_iadd (q := 1295) dL_law_1294 rfl ?_
  refine aw_sld (q := 1296) dL_law_1295 rfl ?_
  refine aw_call (q := 1299) (kc1 := kc + 296) (ks1 := ks + 16961) (wc := WM rq M) (wr := WX r z1272.2.1 ++ [OC o z1272.2.2 sv]) (st1 := fun z1296 g1296 => [.int z1296.1]) (ws1 := fun z1296 g1296 => (WX r z1272.2.1 ++ [OC o z1272.2.2 sv]) ++ WM rq z1296.2) (As := [.ref (rq 0), .int (xs (i + (1 : Int32)).toNatClampNeg), .int (xs (i + (2 : Int32)).toNatClampNeg), .int (xs (i + (3 : Int32)).toNatClampNeg)]) [27, 28, 29, 30, 31, 32, 33, 34, 35, 36, 37, 38, 39, 40] [0, 1, 2, 3, 4, 5, 6, 7, 8, 9, 10, 11, 12, 13, 14, 15, 16, 17, 18, 19, 20, 21, 22, 23, 24, 25, 26, 41] (fun _ => runV (q0 := 27) dL_law_1296 mi_X7_walk im_X7_walk se_X7_walk ml_L_221 (by omega) rfl (Nat.le_of_ble_eq_true rfl) rfl rfl rfl rfl) (fun x9 h9 => ogM_walk h9) rfl rfl rfl rfl rfl (by decide +kernel) (by omega) (by omega) (fun _ _ => rfl) (fun _ _ => rfl) (fun z1296 g1296 => ?_)
  refine aw_world (ws' := (WA r rq o z1272.2.1 z1296.2 z1272.2.2 sv)) [0, 1, 2, 3, 4, 5, 6, 7, 8, 9, 10, 11, 12, 13, 14, 15, 16, 17, 18, 19, 20, 21, 22, 23, 24, 25, 26, 28, 29, 30, 31, 32, 33, 34, 35, 36, 37, 38, 39, 40, 41, 27] rfl rfl ?_
  refine aw_istore (q := 1301) (lv' := [(6, .int z1296.1), (5, .int z1272.1), (0, .ref b), (1, .ref (r 0)), (2, .ref (rq 0)), (3, .ref o), (4, .int i)]) dL_law_1299 rfl (by decide) rfl ?_
  refine aw_goto (tgt := 2084) dL_law_1301 (by decide) ?_
  refine aw_iinc (q := 2087) (v := (i + (6 : Int32))) (lv' := [(4, .int (i + (6 : Int32))), (6, .int z1296.1), (5, .int z1272.1), (0, .ref b), (1, .ref (r 0)), (2, .ref (rq 0)), (3, .ref o)]) dL_law_2084 rfl 6 rfl rfl (by decide) rfl ?_
  refine aw_goto (tgt := 27) dL_law_2087 (by decide) ?_
  refine aw_locals (lv' := [(0, .ref b), (1, .ref (r 0)), (2, .ref (rq 0)), (3, .ref o), (4, .int (i + (6 : Int32)))]) [3, 4, 5, 6, 0] rfl ?_
  refine aw_room (kc' := kc) (ks' := ks) (by omega) (by omega) ?_
  exact hk _ _ _ _ _
def flc_20 (N K L : Nat) (xs : Nat → Int32) (k : Int32 → CS → MS → Int64 → Option Int32) (i : Int32) (S : CS) (M : MS) (nv : Int64) : Option Int32 :=
  (if (i + (1 : Int32)) < 0 ∨ L ≤ (i + (1 : Int32)).toNatClampNeg then none else (if (i + (2 : Int32)) < 0 ∨ L ≤ (i + (2 : Int32)).toNatClampNeg then none else (if (i + (3 : Int32)) < 0 ∨ L ≤ (i + (3 : Int32)).toNatClampNeg then none else ((gL_product N K S (xs (i + (1 : Int32)).toNatClampNeg) (xs (i + (2 : Int32)).toNatClampNeg) (xs (i + (3 : Int32)).toNatClampNeg) nv).bind (fun z1324 => (if (i + (1 : Int32)) < 0 ∨ L ≤ (i + (1 : Int32)).toNatClampNeg then none else (if (i + (2 : Int32)) < 0 ∨ L ≤ (i + (2 : Int32)).toNatClampNeg then none else (if (i + (3 : Int32)) < 0 ∨ L ≤ (i + (3 : Int32)).toNatClampNeg then none else ((gM_product N K M (xs (i + (1 : Int32)).toNatClampNeg) (xs (i + (2 : Int32)).toNatClampNeg) (xs (i + (3 : Int32)).toNatClampNeg)).bind (fun z1348 => k (i + (6 : Int32)) z1324.2.1 z1348.2 z1324.2.2))))))))))
set_option maxHeartbeats 4000000 in
set_option maxRecDepth 100000 in
theorem tlc_20 {nm : String} {hh : List (Nat × Nat × Nat × Nat)} {N K b L kc ks : Nat} {xs : Nat → Int32} {r rq : Nat → Nat} {o : Nat} {k : Int32 → CS → MS → Int64 → Option Int32} (hk : ∀ (i : Int32) (S : CS) (M : MS) (nv : Int64) (sv : Value), AW RL nm cL_law 7 (some .boolean) hh (XS b L xs) (2 * K + 20) (PZ) kc ks (k i S M nv) 27 [(0, .ref b), (1, .ref (r 0)), (2, .ref (rq 0)), (3, .ref o), (4, .int i)] [] (WA r rq o S M nv sv)) (i : Int32) (S : CS) (M : MS) (nv : Int64) (sv : Value) : AW RL nm cL_law 7 (some .boolean) hh (XS b L xs) (2 * K + 20) (PZ) (kc + 300) (ks + 17000) (flc_20 N K L xs k i S M nv) 1304 [(0, .ref b), (1, .ref (r 0)), (2, .ref (rq 0)), (3, .ref o), (4, .int i)] [] (WA r rq o S M nv sv) := by
  unfold flc_20
  refine aw_aload_n (q := 1305) dL_law_1304 rfl 1 rfl ?_
  refine aw_aload_n (q := 1306) dL_law_1305 rfl 0 rfl ?_
  refine aw_iload (q := 1308) dL_law_1306 rfl 4 rfl ?_
  refine aw_iconst (q := 1309) (v := 1) dL_law_1308 rfl (by decide) ?_
  refine aw_iadd (q := 1310) dL_law_1309 rfl ?_
  refine aw_sld (q := 1311) dL_law_1310 rfl ?_
  refine aw_aload_n (q := 1312) dL_law_1311 rfl 0 rfl ?_
  refine aw_iload (q := 1314) dL_law_1312 rfl 4 rfl ?_
  refine aw_iconst (q := 1315) (v := 2) dL_law_1314 rfl (by decide) ?_
  refine aw_iadd (q := 1316) dL_law_1315 rfl ?_
  refine aw_sld (q := 1317) dL_law_1316 rfl ?_
  refine aw_aload_n (q := 1318) dL_law_1317 rfl 0 rfl ?_
  refine aw_iload (q := 1320) dL_law_1318 rfl 4 rfl ?_
  refine aw_iconst (q := 1321) (v := 3) dL_law_1320 rfl (by decide) ?_
  refine aw_iadd (q := 1322) dL_law_1321 rfl ?_
  refine aw_sld (q := 1323) dL_law_1322 rfl ?_
  refine aw_aload_n (q := 1324) dL_law_1323 rfl 3 rfl ?_
  refine aw_call (q := 1327) (kc1 := kc + 297) (ks1 := ks + 16982) (wc := WX r S ++ [OC o nv sv]) (wr := WM rq M) (st1 := fun z1324 g1324 => [.int z1324.1]) (ws1 := fun z1324 g1324 => WM rq M ++ (WX r z1324.2.1 ++ [OC o z1324.2.2 sv])) (As := [.ref (r 0), .int (xs (i + (1 : Int32)).toNatClampNeg), .int (xs (i + (2 : Int32)).toNatClampNeg), .int (xs (i + (3 : Int32)).toNatClampNeg), .ref o]) [0, 1, 2, 3, 4, 5, 6, 7, 8, 9, 10, 11, 12, 13, 14, 15, 16, 17, 18, 19, 20, 21, 22, 23, 24, 25, 26, 41] [27, 28, 29, 30, 31, 32, 33, 34, 35, 36, 37, 38, 39, 40] (fun _ => runSX dL_law_1324 mix_L_product st_L_product ml_L_222 (by omega) rfl (Nat.le_of_ble_eq_true rfl) rfl) (fun x9 h9 => ogL_product h9) rfl rfl rfl rfl rfl (by decide +kernel) (by omega) (by omega) (fun _ _ => rfl) (fun _ _ => rfl) (fun z1324 g1324 => ?_)
  refine aw_world (ws' := (WA r rq o z1324.2.1 M z1324.2.2 sv)) [14, 15, 16, 17, 18, 19, 20, 21, 22, 23, 24, 25, 26, 27, 28, 29, 30, 31, 32, 33, 34, 35, 36, 37, 38, 39, 40, 0, 1, 2, 3, 4, 5, 6, 7, 8, 9, 10, 11, 12, 13, 41] rfl rfl ?_
  refine aw_istore (q := 1329) (lv' := [(5, .int z1324.1), (0, .ref b), (1, .ref (r 0)), (2, .ref (rq 0)), (3, .ref o), (4, .int i)]) dL_law_1327 rfl (by decide) rfl ?_
  refine aw_aload_n (q := 1330) dL_law_1329 rfl 3 rfl ?_
  refine aw_aload_n (q := 1331) dL_law_1330 rfl 1 rfl ?_
  refine aw_iload (q := 1333) dL_law_1331 rfl 5 rfl ?_
  refine aw_iconst (q := 1334) (v := 1) dL_law_1333 rfl (by decide) ?_
  refine aw_iadd (q := 1335) dL_law_1334 rfl ?_
  refine aw_sld (q := 1336) dL_law_1335 rfl ?_
  refine aw_aload_n (q := 1337) dL_law_1336 rfl 1 rfl ?_
  refine aw_iload (q := 1339) dL_law_1337 rfl 5 rfl ?_
  refine aw_iconst (q := 1340) (v := 2) dL_law_1339 rfl (by decide) ?_
  refine aw_iadd (q := 1341) dL_law_1340 rfl ?_
  refine aw_sld (q := 1342) dL_law_1341 rfl ?_
  refine aw_aload_n (q := 1343) dL_law_1342 rfl 1 rfl ?_
  refine aw_iload (q := 1345) dL_law_1343 rfl 5 rfl ?_
  refine aw_iconst (q := 1346) (v := 3) dL_law_1345 rfl (by decide) ?_
  refine aw_iadd (q := 1347) dL_law_1346 rfl ?_
  refine aw_sld (q := 1348) dL_law_1347 rfl ?_
  refine aw_call (q := 1351) (kc1 := kc + 296) (ks1 := ks + 16961) (wc := WM rq M) (wr := WX r z1324.2.1 ++ [OC o z1324.2.2 sv]) (st1 := fun z1348 g1348 => [.int z1348.1]) (ws1 := fun z1348 g1348 => (WX r z1324.2.1 ++ [OC o z1324.2.2 sv]) ++ WM rq z1348.2) (As := [.ref (rq 0), .int (xs (i + (1 : Int32)).toNatClampNeg), .int (xs (i + (2 : Int32)).toNatClampNeg), .int (xs (i + (3 : Int32)).toNatClampNeg)]) [27, 28, 29, 30, 31, 32, 33, 34, 35, 36, 37, 38, 39, 40] [0, 1, 2, 3, 4, 5, 6, 7, 8, 9, 10, 11, 12, 13, 14, 15, 16, 17, 18, 19, 20, 21, 22, 23, 24, 25, 26, 41] (fun _ => runV (q0 := 27) dL_law_1348 mi_X7_product im_X7_product se_X7_product ml_L_224 (by omega) rfl (Nat.le_of_ble_eq_true rfl) rfl rfl rfl rfl) (fun x9 h9 => ogM_product h9) rfl rfl rfl rfl rfl (by decide +kernel) (by omega) (by omega) (fun _ _ => rfl) (fun _ _ => rfl) (fun z1348 g1348 => ?_)
  refine aw_world (ws' := (WA r rq o z1324.2.1 z1348.2 z1324.2.2 sv)) [0, 1, 2, 3, 4, 5, 6, 7, 8, 9, 10, 11, 12, 13, 14, 15, 16, 17, 18, 19, 20, 21, 22, 23, 24, 25, 26, 28, 29, 30, 31, 32, 33, 34, 35, 36, 37, 38, 39, 40, 41, 27] rfl rfl ?_
  refine aw_istore (q := 1353) (lv' := [(6, .int z1348.1), (5, .int z1324.1), (0, .ref b), (1, .ref (r 0)), (2, .ref (rq 0)), (3, .ref o), (4, .int i)]) dL_law_1351 rfl (by decide) rfl ?_
  refine aw_goto (tgt := 2084) dL_law_1353 (by decide) ?_
  refine aw_iinc (q := 2087) (v := (i + (6 : Int32))) (lv' := [(4, .int (i + (6 : Int32))), (6, .int z1348.1), (5, .int z1324.1), (0, .ref b), (1, .ref (r 0)), (2, .ref (rq 0)), (3, .ref o)]) dL_law_2084 rfl 6 rfl rfl (by decide) rfl ?_
  refine aw_goto (tgt := 27) dL_law_2087 (by decide) ?_
  refine aw_locals (lv' := [(0, .ref b), (1, .ref (r 0)), (2, .ref (rq 0)), (3, .ref o), (4, .int (i + (6 : Int32)))]) [3, 4, 5, 6, 0] rfl ?_
  refine aw_room (kc' := kc) (ks' := ks) (by omega) (by omega) ?_
  exact hk _ _ _ _ _
def flc_21 (N K L : Nat) (xs : Nat → Int32) (k : Int32 → CS → MS → Int64 → Option Int32) (i : Int32) (S : CS) (M : MS) (nv : Int64) : Option Int32 :=
  (if (i + (1 : Int32)) < 0 ∨ L ≤ (i + (1 : Int32)).toNatClampNeg then none else (if (i + (2 : Int32)) < 0 ∨ L ≤ (i + (2 : Int32)).toNatClampNeg then none else ((gL_rule N K S (xs (i + (1 : Int32)).toNatClampNeg) (xs (i + (2 : Int32)).toNatClampNeg) nv).bind (fun z1370 => (if (i + (1 : Int32)) < 0 ∨ L ≤ (i + (1 : Int32)).toNatClampNeg then none else (if (i + (2 : Int32)) < 0 ∨ L ≤ (i + (2 : Int32)).toNatClampNeg then none else ((gM_rule N K M (xs (i + (1 : Int32)).toNatClampNeg) (xs (i + (2 : Int32)).toNatClampNeg)).bind (fun z1388 => k (i + (6 : Int32)) z1370.2.1 z1388.2 z1370.2.2))))))))
set_option maxHeartbeats 4000000 in
set_option maxRecDepth 100000 in
theorem tlc_21 {nm : String} {hh : List (Nat × Nat × Nat × Nat)} {N K b L kc ks : Nat} {xs : Nat → Int32} {r rq : Nat → Nat} {o : Nat} {k : Int32 → CS → MS → Int64 → Option Int32} (hk : ∀ (i : Int32) (S : CS) (M : MS) (nv : Int64) (sv : Value), AW RL nm cL_law 7 (some .boolean) hh (XS b L xs) (2 * K + 20) (PZ) kc ks (k i S M nv) 27 [(0, .ref b), (1, .ref (r 0)), (2, .ref (rq 0)), (3, .ref o), (4, .int i)] [] (WA r rq o S M nv sv)) (i : Int32) (S : CS) (M : MS) (nv : Int64) (sv : Value) : AW RL nm cL_law 7 (some .boolean) hh (XS b L xs) (2 * K + 20) (PZ) (kc + 300) (ks + 17000) (flc_21 N K L xs k i S M nv) 1356 [(0, .ref b), (1, .ref (r 0)), (2, .ref (rq 0)), (3, .ref o), (4, .int i)] [] (WA r rq o S M nv sv) := by
  unfold flc_21
  refine aw_aload_n (q := 1357) dL_law_1356 rfl 1 rfl ?_
  refine aw_aload_n (q := 1358) dL_law_1357 rfl 0 rfl ?_
  refine aw_iload (q := 1360) dL_law_1358 rfl 4 rfl ?_
  refine aw_iconst (q := 1361) (v := 1) dL_law_1360 rfl (by decide) ?_
  refine aw_iadd (q := 1362) dL_law_1361 rfl ?_
  refine aw_sld (q := 1363) dL_law_1362 rfl ?_
  refine aw_aload_n (q := 1364) dL_law_1363 rfl 0 rfl ?_
  refine aw_iload (q := 1366) dL_law_1364 rfl 4 rfl ?_
  refine aw_iconst (q := 1367) (v := 2) dL_law_1366 rfl (by decide) ?_
  refine aw_iadd (q := 1368) dL_law_1367 rfl ?_
  refine aw_sld (q := 1369) dL_law_1368 rfl ?_
  refine aw_aload_n (q := 1370) dL_law_1369 rfl 3 rfl ?_
  refine aw_call (q := 1373) (kc1 := kc + 298) (ks1 := ks + 16988) (wc := WX r S ++ [OC o nv sv]) (wr := WM rq M) (st1 := fun z1370 g1370 => [.int z1370.1]) (ws1 := fun z1370 g1370 => WM rq M ++ (WX r z1370.2.1 ++ [OC o z1370.2.2 sv])) (As := [.ref (r 0), .int (xs (i + (1 : Int32)).toNatClampNeg), .int (xs (i + (2 : Int32)).toNatClampNeg), .ref o]) [0, 1, 2, 3, 4, 5, 6, 7, 8, 9, 10, 11, 12, 13, 14, 15, 16, 17, 18, 19, 20, 21, 22, 23, 24, 25, 26, 41] [27, 28, 29, 30, 31, 32, 33, 34, 35, 36, 37, 38, 39, 40] (fun _ => runSX dL_law_1370 mix_L_rule st_L_rule ml_L_225 (by omega) rfl (Nat.le_of_ble_eq_true rfl) rfl) (fun x9 h9 => ogL_rule h9) rfl rfl rfl rfl rfl (by decide +kernel) (by omega) (by omega) (fun _ _ => rfl) (fun _ _ => rfl) (fun z1370 g1370 => ?_)
  refine aw_world (ws' := (WA r rq o z1370.2.1 M z1370.2.2 sv)) [14, 15, 16, 17, 18, 19, 20, 21, 22, 23, 24, 25, 26, 27, 28, 29, 30, 31, 32, 33, 34, 35, 36, 37, 38, 39, 40, 0, 1, 2, 3, 4, 5, 6, 7, 8, 9, 10, 11, 12, 13, 41] rfl rfl ?_
  refine aw_istore (q := 1375) (lv' := [(5, .int z1370.1), (0, .ref b), (1, .ref (r 0)), (2, .ref (rq 0)), (3, .ref o), (4, .int i)]) dL_law_1373 rfl (by decide) rfl ?_
  refine aw_aload_n (q := 1376) dL_law_1375 rfl 3 rfl ?_
  refine aw_aload_n (q := 1377) dL_law_1376 rfl 1 rfl ?_
  refine aw_iload (q := 1379) dL_law_1377 rfl 5 rfl ?_
  refine aw_iconst (q := 1380) (v := 1) dL_law_1379 rfl (by decide) ?_
  refine aw_iadd (q := 1381) dL_law_1380 rfl ?_
  refine aw_sld (q := 1382) dL_law_1381 rfl ?_
  refine aw_aload_n (q := 1383) dL_law_1382 rfl 1 rfl ?_
  refine aw_iload (q := 1385) dL_law_1383 rfl 5 rfl ?_
  refine aw_iconst (q := 1386) (v := 2) dL_law_1385 rfl (by decide) ?_
  refine aw_iadd (q := 1387) dL_law_1386 rfl ?_
  refine aw_sld (q := 1388) dL_law_1387 rfl ?_
  refine aw_call (q := 1391) (kc1 := kc + 298) (ks1 := ks + 16988) (wc := WM rq M) (wr := WX r z1370.2.1 ++ [OC o z1370.2.2 sv]) (st1 := fun z1388 g1388 => [.int z1388.1]) (ws1 := fun z1388 g1388 => (WX r z1370.2.1 ++ [OC o z1370.2.2 sv]) ++ WM rq z1388.2) (As := [.ref (rq 0), .int (xs (i + (1 : Int32)).toNatClampNeg), .int (xs (i + (2 : Int32)).toNatClampNeg)]) [27, 28, 29, 30, 31, 32, 33, 34, 35, 36, 37, 38, 39, 40] [0, 1, 2, 3, 4, 5, 6, 7, 8, 9, 10, 11, 12, 13, 14, 15, 16, 17, 18, 19, 20, 21, 22, 23, 24, 25, 26, 41] (fun _ => runV (q0 := 27) dL_law_1388 mi_X7_rule im_X7_rule se_X7_rule ml_L_227 (by omega) rfl (Nat.le_of_ble_eq_true rfl) rfl rfl rfl rfl) (fun x9 h9 => ogM_rule h9) rfl rfl rfl rfl rfl (by decide +kernel) (by omega) (by omega) (fun _ _ => rfl) (fun _ _ => rfl) (fun z1388 g1388 => ?_)
  refine aw_world (ws' := (WA r rq o z1370.2.1 z1388.2 z1370.2.2 sv)) [0, 1, 2, 3, 4, 5, 6, 7, 8, 9, 10, 11, 12, 13, 14, 15, 16, 17, 18, 19, 20, 21, 22, 23, 24, 25, 26, 28, 29, 30, 31, 32, 33, 34, 35, 36, 37, 38, 39, 40, 41, 27] rfl rfl ?_
  refine aw_istore (q := 1393) (lv' := [(6, .int z1388.1), (5, .int z1370.1), (0, .ref b), (1, .ref (r 0)), (2, .ref (rq 0)), (3, .ref o), (4, .int i)]) dL_law_1391 rfl (by decide) rfl ?_
  refine aw_goto (tgt := 2084) dL_law_1393 (by decide) ?_
  refine aw_iinc (q := 2087) (v := (i + (6 : Int32))) (lv' := [(4, .int (i + (6 : Int32))), (6, .int z1388.1), (5, .int z1370.1), (0, .ref b), (1, .ref (r 0)), (2, .ref (rq 0)), (3, .ref o)]) dL_law_2084 rfl 6 rfl rfl (by decide) rfl ?_
  refine aw_goto (tgt := 27) dL_law_2087 (by decide) ?_
  refine aw_locals (lv' := [(0, .ref b), (1, .ref (r 0)), (2, .ref (rq 0)), (3, .ref o), (4, .int (i + (6 : Int32)))]) [3, 4, 5, 6, 0] rfl ?_
  refine aw_room (kc' := kc) (ks' := ks) (by omega) (by omega) ?_
  exact hk _ _ _ _ _
def flc_22 (N K L : Nat) (xs : Nat → Int32) (k : Int32 → CS → MS → Int64 → Option Int32) (i : Int32) (S : CS) (M : MS) (nv : Int64) : Option Int32 :=
  (if (i + (1 : Int32)) < 0 ∨ L ≤ (i + (1 : Int32)).toNatClampNeg then none else (if (i + (2 : Int32)) < 0 ∨ L ≤ (i + (2 : Int32)).toNatClampNeg then none else ((gL_forgetRule N K S (xs (i + (1 : Int32)).toNatClampNeg) (xs (i + (2 : Int32)).toNatClampNeg) nv).bind (fun z1410 => (if (i + (1 : Int32)) < 0 ∨ L ≤ (i + (1 : Int32)).toNatClampNeg then none else (if (i + (2 : Int32)) < 0 ∨ L ≤ (i + (2 : Int32)).toNatClampNeg then none else ((gM_forgetRule N K M (xs (i + (1 : Int32)).toNatClampNeg) (xs (i + (2 : Int32)).toNatClampNeg)).bind (fun z1428 => k (i + (6 : Int32)) z1410.2.1 z1428.2 z1410.2.2))))))))
set_option maxHeartbeats 4000000 in
set_option maxRecDepth 100000 in
theorem tlc_22 {nm : String} {hh : List (Nat × Nat × Nat × Nat)} {N K b L kc ks : Nat} {xs : Nat → Int32} {r rq : Nat → Nat} {o : Nat} {k : Int32 → CS → MS → Int64 → Option Int32} (hk : ∀ (i : Int32) (S : CS) (M : MS) (nv : Int64) (sv : Value), AW RL nm cL_law 7 (some .boolean) hh (XS b L xs) (2 * K + 20) (PZ) kc ks (k i S M nv) 27 [(0, .ref b), (1, .ref (r 0)), (2, .ref (rq 0)), (3, .ref o), (4, .int i)] [] (WA r rq o S M nv sv)) (i : Int32) (S : CS) (M : MS) (nv : Int64) (sv : Value) : AW RL nm cL_law 7 (some .boolean) hh (XS b L xs) (2 * K + 20) (PZ) (kc + 300) (ks + 17000) (flc_22 N K L xs k i S M nv) 1396 [(0, .ref b), (1, .ref (r 0)), (2, .ref (rq 0)), (3, .ref o), (4, .int i)] [] (WA r rq o S M nv sv) := by
  unfold flc_22
  refine aw_aload_n (q := 1397) dL_law_1396 rfl 1 rfl ?_
  refine aw_aload_n (q := 1398) dL_law_1397 rfl 0 rfl ?_
  refine aw_iload (q := 1400) dL_law_1398 rfl 4 rfl ?_
  refine aw_iconst (q := 1401) (v := 1) dL_law_1400 rfl (by decide) ?_
  refine aw_iadd (q := 1402) dL_law_1401 rfl ?_
  refine aw_sld (q := 1403) dL_law_1402 rfl ?_
  refine aw_aload_n (q := 1404) dL_law_1403 rfl 0 rfl ?_
  refine aw_iload (q := 1406) dL_law_1404 rfl 4 rfl ?_
  refine aw_iconst (q := 1407) (v := 2) dL_law_1406 rfl (by decide) ?_
  refine aw_iadd (q := 1408) dL_law_1407 rfl ?_
  refine aw_sld (q := 1409) dL_law_1408 rfl ?_
  refine aw_aload_n (q := 1410) dL_law_1409 rfl 3 rfl ?_
  refine aw_call (q := 1413) (kc1 := kc + 298) (ks1 := ks + 16988) (wc := WX r S ++ [OC o nv sv]) (wr := WM rq M) (st1 := fun z1410 g1410 => [.int z1410.1]) (ws1 := fun z1410 g1410 => WM rq M ++ (WX r z1410.2.1 ++ [OC o z1410.2.2 sv])) (As := [.ref (r 0), .int (xs (i + (1 : Int32)).toNatClampNeg), .int (xs (i + (2 : Int32)).toNatClampNeg), .ref o]) [0, 1, 2, 3, 4, 5, 6, 7, 8, 9, 10, 11, 12, 13, 14, 15, 16, 17, 18, 19, 20, 21, 22, 23, 24, 25, 26, 41] [27, 28, 29, 30, 31, 32, 33, 34, 35, 36, 37, 38, 39, 40] (fun _ => runSX dL_law_1410 mix_L_forgetRule st_L_forgetRule ml_L_228 (by omega) rfl (Nat.le_of_ble_eq_true rfl) rfl) (fun x9 h9 => ogL_forgetRule h9) rfl rfl rfl rfl rfl (by decide +kernel) (by omega) (by omega) (fun _ _ => rfl) (fun _ _ => rfl) (fun z1410 g1410 => ?_)
  refine aw_world (ws' := (WA r rq o z1410.2.1 M z1410.2.2 sv)) [14, 15, 16, 17, 18, 19, 20, 21, 22, 23, 24, 25, 26, 27, 28, 29, 30, 31, 32, 33, 34, 35, 36, 37, 38, 39, 40, 0, 1, 2, 3, 4, 5, 6, 7, 8, 9, 10, 11, 12, 13, 41] rfl rfl ?_
  refine aw_istore (q := 1415) (lv' := [(5, .int z1410.1), (0, .ref b), (1, .ref (r 0)), (2, .ref (rq 0)), (3, .ref o), (4, .int i)]) dL_law_1413 rfl (by decide) rfl ?_
  refine aw_aload_n (q := 1416) dL_law_1415 rfl 3 rfl ?_
  refine aw_aload_n (q := 1417) dL_law_1416 rfl 1 rfl ?_
  refine aw_iload (q := 1419) dL_law_1417 rfl 5 rfl ?_
  refine aw_iconst (q := 1420) (v := 1) dL_law_1419 rfl (by decide) ?_
  refine aw_iadd (q := 1421) dL_law_1420 rfl ?_
  refine aw_sld (q := 1422) dL_law_1421 rfl ?_
  refine aw_aload_n (q := 1423) dL_law_1422 rfl 1 rfl ?_
  refine aw_iload (q := 1425) dL_law_1423 rfl 5 rfl ?_
  refine aw_iconst (q := 1426) (v := 2) dL_law_1425 rfl (by decide) ?_
  refine aw_iadd (q := 1427) dL_law_1426 rfl ?_
  refine aw_sld (q := 1428) dL_law_1427 rfl ?_
  refine aw_call (q := 1431) (kc1 := kc + 298) (ks1 := ks + 16988) (wc := WM rq M) (wr := WX r z1410.2.1 ++ [OC o z1410.2.2 sv]) (st1 := fun z1428 g1428 => [.int z1428.1]) (ws1 := fun z1428 g1428 => (WX r z1410.2.1 ++ [OC o z1410.2.2 sv]) ++ WM rq z1428.2) (As := [.ref (rq 0), .int (xs (i + (1 : Int32)).toNatClampNeg), .int (xs (i + (2 : Int32)).toNatClampNeg)]) [27, 28, 29, 30, 31, 32, 33, 34, 35, 36, 37, 38, 39, 40] [0, 1, 2, 3, 4, 5, 6, 7, 8, 9, 10, 11, 12, 13, 14, 15, 16, 17, 18, 19, 20, 21, 22, 23, 24, 25, 26, 41] (fun _ => runV (q0 := 27) dL_law_1428 mi_X7_forgetRule im_X7_forgetRule se_X7_forgetRule ml_L_230 (by omega) rfl (Nat.le_of_ble_eq_true rfl) rfl rfl rfl rfl) (fun x9 h9 => ogM_forgetRule h9) rfl rfl rfl rfl rfl (by decide +kernel) (by omega) (by omega) (fun _ _ => rfl) (fun _ _ => rfl) (fun z1428 g1428 => ?_)
  refine aw_world (ws' := (WA r rq o z1410.2.1 z1428.2 z1410.2.2 sv)) [0, 1, 2, 3, 4, 5, 6, 7, 8, 9, 10, 11, 12, 13, 14, 15, 16, 17, 18, 19, 20, 21, 22, 23, 24, 25, 26, 28, 29, 30, 31, 32, 33, 34, 35, 36, 37, 38, 39, 40, 41, 27] rfl rfl ?_
  refine aw_istore (q := 1433) (lv' := [(6, .int z1428.1), (5, .int z1410.1), (0, .ref b), (1, .ref (r 0)), (2, .ref (rq 0)), (3, .ref o), (4, .int i)]) dL_law_1431 rfl (by decide) rfl ?_
  refine aw_goto (tgt := 2084) dL_law_1433 (by decide) ?_
  refine aw_iinc (q := 2087) (v := (i + (6 : Int32))) (lv' := [(4, .int (i + (6 : Int32))), (6, .int z1428.1), (5, .int z1410.1), (0, .ref b), (1, .ref (r 0)), (2, .ref (rq 0)), (3, .ref o)]) dL_law_2084 rfl 6 rfl rfl (by decide) rfl ?_
  refine aw_goto (tgt := 27) dL_law_2087 (by decide) ?_
  refine aw_locals (lv' := [(0, .ref b), (1, .ref (r 0)), (2, .ref (rq 0)), (3, .ref o), (4, .int (i + (6 : Int32)))]) [3, 4, 5, 6, 0] rfl ?_
  refine aw_room (kc' := kc) (ks' := ks) (by omega) (by omega) ?_
  exact hk _ _ _ _ _
def flc_23 (N K L : Nat) (xs : Nat → Int32) (k : Int32 → CS → MS → Int64 → Option Int32) (i : Int32) (S : CS) (M : MS) (nv : Int64) : Option Int32 :=
  (if (i + (1 : Int32)) < 0 ∨ L ≤ (i + (1 : Int32)).toNatClampNeg then none else (if (i + (2 : Int32)) < 0 ∨ L ≤ (i + (2 : Int32)).toNatClampNeg then none else ((gL_ledger N K S (xs (i + (1 : Int32)).toNatClampNeg) (xs (i + (2 : Int32)).toNatClampNeg) nv).bind (fun z1450 => (if (i + (1 : Int32)) < 0 ∨ L ≤ (i + (1 : Int32)).toNatClampNeg then none else (if (i + (2 : Int32)) < 0 ∨ L ≤ (i + (2 : Int32)).toNatClampNeg then none else ((gM_ledger N K M (xs (i + (1 : Int32)).toNatClampNeg) (xs (i + (2 : Int32)).toNatClampNeg)).bind (fun z1468 => k (i + (6 : Int32)) z1450.2.1 z1468.2 z1450.2.2))))))))
set_option maxHeartbeats 4000000 in
set_option maxRecDepth 100000 in
theorem tlc_23 {nm : String} {hh : List (Nat × Nat × Nat × Nat)} {N K b L kc ks : Nat} {xs : Nat → Int32} {r rq : Nat → Nat} {o : Nat} {k : Int32 → CS → MS → Int64 → Option Int32} (hk : ∀ (i : Int32) (S : CS) (M : MS) (nv : Int64) (sv : Value), AW RL nm cL_law 7 (some .boolean) hh (XS b L xs) (2 * K + 20) (PZ) kc ks (k i S M nv) 27 [(0, .ref b), (1, .ref (r 0)), (2, .ref (rq 0)), (3, .ref o), (4, .int i)] [] (WA r rq o S M nv sv)) (i : Int32) (S : CS) (M : MS) (nv : Int64) (sv : Value) : AW RL nm cL_law 7 (some .boolean) hh (XS b L xs) (2 * K + 20) (PZ) (kc + 300) (ks + 17000) (flc_23 N K L xs k i S M nv) 1436 [(0, .ref b), (1, .ref (r 0)), (2, .ref (rq 0)), (3, .ref o), (4, .int i)] [] (WA r rq o S M nv sv) := by
  unfold flc_23
  refine aw_aload_n (q := 1437) dL_law_1436 rfl 1 rfl ?_
  refine aw_aload_n (q := 1438) dL_law_1437 rfl 0 rfl ?_
  refine aw_iload (q := 1440) dL_law_1438 rfl 4 rfl ?_
  refine aw_iconst (q := 1441) (v := 1) dL_law_1440 rfl (by decide) ?_
  refine aw_iadd (q := 1442) dL_law_1441 rfl ?_
  refine aw_sld (q := 1443) dL_law_1442 rfl ?_
  refine aw_aload_n (q := 1444) dL_law_1443 rfl 0 rfl ?_
  refine aw_iload (q := 1446) dL_law_1444 rfl 4 rfl ?_
  refine aw_iconst (q := 1447) (v := 2) dL_law_1446 rfl (by decide) ?_
  refine aw_iadd (q := 1448) dL_law_1447 rfl ?_
  refine aw_sld (q := 1449) dL_law_1448 rfl ?_
  refine aw_aload_n (q := 1450) dL_law_1449 rfl 3 rfl ?_
  refine aw_call (q := 1453) (kc1 := kc + 298) (ks1 := ks + 16988) (wc := WX r S ++ [OC o nv sv]) (wr := WM rq M) (st1 := fun z1450 g1450 => [.int z1450.1]) (ws1 := fun z1450 g1450 => WM rq M ++ (WX r z1450.2.1 ++ [OC o z1450.2.2 sv])) (As := [.ref (r 0), .int (xs (i + (1 : Int32)).toNatClampNeg), .int (xs (i + (2 : Int32)).toNatClampNeg), .ref o]) [0, 1, 2, 3, 4, 5, 6, 7, 8, 9, 10, 11, 12, 13, 14, 15, 16, 17, 18, 19, 20, 21, 22, 23, 24, 25, 26, 41] [27, 28, 29, 30, 31, 32, 33, 34, 35, 36, 37, 38, 39, 40] (fun _ => runSX dL_law_1450 mix_L_ledger st_L_ledger ml_L_231 (by omega) rfl (Nat.le_of_ble_eq_true rfl) rfl) (fun x9 h9 => ogL_ledger h9) rfl rfl rfl rfl rfl (by decide +kernel) (by omega) (by omega) (fun _ _ => rfl) (fun _ _ => rfl) (fun z1450 g1450 => ?_)
  refine aw_world (ws' := (WA r rq o z1450.2.1 M z1450.2.2 sv)) [14, 15, 16, 17, 18, 19, 20, 21, 22, 23, 24, 25, 26, 27, 28, 29, 30, 31, 32, 33, 34, 35, 36, 37, 38, 39, 40, 0, 1, 2, 3, 4, 5, 6, 7, 8, 9, 10, 11, 12, 13, 41] rfl rfl ?_
  refine aw_istore (q := 1455) (lv' := [(5, .int z1450.1), (0, .ref b), (1, .ref (r 0)), (2, .ref (rq 0)), (3, .ref o), (4, .int i)]) dL_law_1453 rfl (by decide) rfl ?_
  refine aw_aload_n (q := 1456) dL_law_1455 rfl 3 rfl ?_
  refine aw_aload_n (q := 1457) dL_law_1456 rfl 1 rfl ?_
  refine aw_iload (q := 1459) dL_law_1457 rfl 5 rfl ?_
  refine aw_iconst (q := 1460) (v := 1) dL_law_1459 rfl (by decide) ?_
  refine aw_iadd (q := 1461) dL_law_1460 rfl ?_
  refine aw_sld (q := 1462) dL_law_1461 rfl ?_
  refine aw_aload_n (q := 1463) dL_law_1462 rfl 1 rfl ?_
  refine aw_iload (q := 1465) dL_law_1463 rfl 5 rfl ?_
  refine aw_iconst (q := 1466) (v := 2) dL_law_1465 rfl (by decide) ?_
  refine aw_iadd (q := 1467) dL_law_1466 rfl ?_
  refine aw_sld (q := 1468) dL_law_1467 rfl ?_
  refine aw_call (q := 1471) (kc1 := kc + 298) (ks1 := ks + 16988) (wc := WM rq M) (wr := WX r z1450.2.1 ++ [OC o z1450.2.2 sv]) (st1 := fun z1468 g1468 => [.int z1468.1]) (ws1 := fun z1468 g1468 => (WX r z1450.2.1 ++ [OC o z1450.2.2 sv]) ++ WM rq z1468.2) (As := [.ref (rq 0), .int (xs (i + (1 : Int32)).toNatClampNeg), .int (xs (i + (2 : Int32)).toNatClampNeg)]) [27, 28, 29, 30, 31, 32, 33, 34, 35, 36, 37, 38, 39, 40] [0, 1, 2, 3, 4, 5, 6, 7, 8, 9, 10, 11, 12, 13, 14, 15, 16, 17, 18, 19, 20, 21, 22, 23, 24, 25, 26, 41] (fun _ => runV (q0 := 27) dL_law_1468 mi_X7_ledger im_X7_ledger se_X7_ledger ml_L_233 (by omega) rfl (Nat.le_of_ble_eq_true rfl) rfl rfl rfl rfl) (fun x9 h9 => ogM_ledger h9) rfl rfl rfl rfl rfl (by decide +kernel) (by omega) (by omega) (fun _ _ => rfl) (fun _ _ => rfl) (fun z1468 g1468 => ?_)
  refine aw_world (ws' := (WA r rq o z1450.2.1 z1468.2 z1450.2.2 sv)) [0, 1, 2, 3, 4, 5, 6, 7, 8, 9, 10, 11, 12, 13, 14, 15, 16, 17, 18, 19, 20, 21, 22, 23, 24, 25, 26, 28, 29, 30, 31, 32, 33, 34, 35, 36, 37, 38, 39, 40, 41, 27] rfl rfl ?_
  refine aw_istore (q := 1473) (lv' := [(6, .int z1468.1), (5, .int z1450.1), (0, .ref b), (1, .ref (r 0)), (2, .ref (rq 0)), (3, .ref o), (4, .int i)]) dL_law_1471 rfl (by decide) rfl ?_
  refine aw_goto (tgt := 2084) dL_law_1473 (by decide) ?_
  refine aw_iinc (q := 2087) (v := (i + (6 : Int32))) (lv' := [(4, .int (i + (6 : Int32))), (6, .int z1468.1), (5, .int z1450.1), (0, .ref b), (1, .ref (r 0)), (2, .ref (rq 0)), (3, .ref o)]) dL_law_2084 rfl 6 rfl rfl (by decide) rfl ?_
  refine aw_goto (tgt := 27) dL_law_2087 (by decide) ?_
  refine aw_locals (lv' := [(0, .ref b), (1, .ref (r 0)), (2, .ref (rq 0)), (3, .ref o), (4, .int (i + (6 : Int32)))]) [3, 4, 5, 6, 0] rfl ?_
  refine aw_room (kc' := kc) (ks' := ks) (by omega) (by omega) ?_
  exact hk _ _ _ _ _
def flc_24 (N K L : Nat) (xs : Nat → Int32) (k : Int32 → CS → MS → Int64 → Option Int32) (i : Int32) (S : CS) (M : MS) (nv : Int64) : Option Int32 :=
  (if (i + (1 : Int32)) < 0 ∨ L ≤ (i + (1 : Int32)).toNatClampNeg then none else (if (i + (2 : Int32)) < 0 ∨ L ≤ (i + (2 : Int32)).toNatClampNeg then none else (if (i + (3 : Int32)) < 0 ∨ L ≤ (i + (3 : Int32)).toNatClampNeg then none else ((gL_ruleWorth N K S (xs (i + (1 : Int32)).toNatClampNeg) (xs (i + (2 : Int32)).toNatClampNeg) (xs (i + (3 : Int32)).toNatClampNeg) nv).bind (fun z1496 => (if (i + (1 : Int32)) < 0 ∨ L ≤ (i + (1 : Int32)).toNatClampNeg then none else (if (i + (2 : Int32)) < 0 ∨ L ≤ (i + (2 : Int32)).toNatClampNeg then none else (if (i + (3 : Int32)) < 0 ∨ L ≤ (i + (3 : Int32)).toNatClampNeg then none else ((gM_ruleWorth N K M (xs (i + (1 : Int32)).toNatClampNeg) (xs (i + (2 : Int32)).toNatClampNeg) (xs (i + (3 : Int32)).toNatClampNeg)).bind (fun z1520 => ((gM_thrown N K z1520.2 ).bind (fun z1526 => (if z1526.1 = z1496.1 then (if z1496.1 = 0 then (if (lg_cmp z1496.2.2 z1520.1.toInt64) = 0 then k (i + (6 : Int32)) z1496.2.1 z1526.2 z1496.2.2 else some (0 : Int32)) else k (i + (6 : Int32)) z1496.2.1 z1526.2 z1496.2.2) else some (0 : Int32))))))))))))))
set_option maxHeartbeats 4000000 in
set_option maxRecDepth 100000 in
theorem tlc_24 {nm : String} {hh : List (Nat × Nat × Nat × Nat)} {N K b L kc ks : Nat} {xs : Nat → Int32} {r rq : Nat → Nat} {o : Nat} {k : Int32 → CS → MS → Int64 → Option Int32} (hk : ∀ (i : Int32) (S : CS) (M : MS) (nv : Int64) (sv : Value), AW RL nm cL_law 7 (some .boolean) hh (XS b L xs) (2 * K + 20) (PZ) kc ks (k i S M nv) 27 [(0, .ref b), (1, .ref (r 0)), (2, .ref (rq 0)), (3, .ref o), (4, .int i)] [] (WA r rq o S M nv sv)) (i : Int32) (S : CS) (M : MS) (nv : Int64) (sv : Value) : AW RL nm cL_law 7 (some .boolean) hh (XS b L xs) (2 * K + 20) (PZ) (kc + 300) (ks + 17000) (flc_24 N K L xs k i S M nv) 1476 [(0, .ref b), (1, .ref (r 0)), (2, .ref (rq 0)), (3, .ref o), (4, .int i)] [] (WA r rq o S M nv sv) := by
  unfold flc_24
  refine aw_aload_n (q := 1477) dL_law_1476 rfl 1 rfl ?_
  refine aw_aload_n (q := 1478) dL_law_1477 rfl 0 rfl ?_
  refine aw_iload (q := 1480) dL_law_1478 rfl 4 rfl ?_
  refine aw_iconst (q := 1481) (v := 1) dL_law_1480 rfl (by decide) ?_
  refine aw_iadd (q := 1482) dL_law_1481 rfl ?_
  refine aw_sld (q := 1483) dL_law_1482 rfl ?_
  refine aw_aload_n (q := 1484) dL_law_1483 rfl 0 rfl ?_
  refine aw_iload (q := 1486) dL_law_1484 rfl 4 rfl ?_
  refine aw_iconst (q := 1487) (v := 2) dL_law_1486 rfl (by decide) ?_
  refine aw_iadd (q := 1488) dL_law_1487 rfl ?_
  refine aw_sld (q := 1489) dL_law_1488 rfl ?_
  refine aw_aload_n (q := 1490) dL_law_1489 rfl 0 rfl ?_
  refine aw_iload (q := 1492) dL_law_1490 rfl 4 rfl ?_
  refine aw_iconst (q := 1493) (v := 3) dL_law_1492 rfl (by decide) ?_
  refine aw_iadd (q := 1494) dL_law_1493 rfl ?_
  refine aw_sld (q := 1495) dL_law_1494 rfl ?_
  refine aw_aload_n (q := 1496) dL_law_1495 rfl 3 rfl ?_
  refine aw_call (q := 1499) (kc1 := kc + 297) (ks1 := ks + 16982) (wc := WX r S ++ [OC o nv sv]) (wr := WM rq M) (st1 := fun z1496 g1496 => [.int z1496.1]) (ws1 := fun z1496 g1496 => WM rq M ++ (WX r z1496.2.1 ++ [OC o z1496.2.2 sv])) (As := [.ref (r 0), .int (xs (i + (1 : Int32)).toNatClampNeg), .int (xs (i + (2 : Int32)).toNatClampNeg), .int (xs (i + (3 : Int32)).toNatClampNeg), .ref o]) [0, 1, 2, 3, 4, 5, 6, 7, 8, 9, 10, 11, 12, 13, 14, 15, 16, 17, 18, 19, 20, 21, 22, 23, 24, 25, 26, 41] [27, 28, 29, 30, 31, 32, 33, 34, 35, 36, 37, 38, 39, 40] (fun _ => runSX dL_law_1496 mix_L_ruleWorth st_L_ruleWorth ml_L_234 (by omega) rfl (Nat.le_of_ble_eq_true rfl) rfl) (fun x9 h9 => ogL_ruleWorth h9) rfl rfl rfl rfl rfl (by decide +kernel) (by omega) (by omega) (fun _ _ => rfl) (fun _ _ => rfl) (fun z1496 g1496 => ?_)
  refine aw_world (ws' := (WA r rq o z1496.2.1 M z1496.2.2 sv)) [14, 15, 16, 17, 18, 19, 20, 21, 22, 23, 24, 25, 26, 27, 28, 29, 30, 31, 32, 33, 34, 35, 36, 37, 38, 39, 40, 0, 1, 2, 3, 4, 5, 6, 7, 8, 9, 10, 11, 12, 13, 41] rfl rfl ?_
  refine aw_istore (q := 1501) (lv' := [(5, .int z1496.1), (0, .ref b), (1, .ref (r 0)), (2, .ref (rq 0)), (3, .ref o), (4, .int i)]) dL_law_1499 rfl (by decide) rfl ?_
  refine aw_aload_n (q := 1502) dL_law_1501 rfl 3 rfl ?_
  refine aw_aload_n (q := 1503) dL_law_1502 rfl 1 rfl ?_
  refine aw_iload (q := 1505) dL_law_1503 rfl 5 rfl ?_
  refine aw_iconst (q := 1506) (v := 1) dL_law_1505 rfl (by decide) ?_
  refine aw_iadd (q := 1507) dL_law_1506 rfl ?_
  refine aw_sld (q := 1508) dL_law_1507 rfl ?_
  refine aw_aload_n (q := 1509) dL_law_1508 rfl 1 rfl ?_
  refine aw_iload (q := 1511) dL_law_1509 rfl 5 rfl ?_
  refine aw_iconst (q := 1512) (v := 2) dL_law_1511 rfl (by decide) ?_
  refine aw_iadd (q := 1513) dL_law_1512 rfl ?_
  refine aw_sld (q := 1514) dL_law_1513 rfl ?_
  refine aw_aload_n (q := 1515) dL_law_1514 rfl 1 rfl ?_
  refine aw_iload (q := 1517) dL_law_1515 rfl 5 rfl ?_
  refine aw_iconst (q := 1518) (v := 3) dL_law_1517 rfl (by decide) ?_
  refine aw_iadd (q := 1519) dL_law_1518 rfl ?_
  refine aw_sld (q := 1520) dL_law_1519 rfl ?_
  refine aw_call (q := 1523) (kc1 := kc + 297) (ks1 := ks + 16982) (wc := WM rq M) (wr := WX r z1496.2.1 ++ [OC o z1496.2.2 sv]) (st1 := fun z1520 g1520 => [.int z1520.1]) (ws1 := fun z1520 g1520 => (WX r z1496.2.1 ++ [OC o z1496.2.2 sv]) ++ WM rq z1520.2) (As := [.ref (rq 0), .int (xs (i + (1 : Int32)).toNatClampNeg), .int (xs (i + (2 : Int32)).toNatClampNeg), .int (xs (i + (3 : Int32)).toNatClampNeg)]) [27, 28, 29, 30, 31, 32, 33, 34, 35, 36, 37, 38, 39, 40] [0, 1, 2, 3, 4, 5, 6, 7, 8, 9, 10, 11, 12, 13, 14, 15, 16, 17, 18, 19, 20, 21, 22, 23, 24, 25, 26, 41] (fun _ => runV (q0 := 27) dL_law_1520 mi_X7_ruleWorth im_X7_ruleWorth se_X7_ruleWorth ml_L_236 (by omega) rfl (Nat.le_of_ble_eq_true rfl) rfl rfl rfl rfl) (fun x9 h9 => ogM_ruleWorth h9) rfl rfl rfl rfl rfl (by decide +kernel) (by omega) (by omega) (fun _ _ => rfl) (fun _ _ => rfl) (fun z1520 g1520 => ?_)
  refine aw_world (ws' := (WA r rq o z1496.2.1 z1520.2 z1496.2.2 sv)) [0, 1, 2, 3, 4, 5, 6, 7, 8, 9, 10, 11, 12, 13, 14, 15, 16, 17, 18, 19, 20, 21, 22, 23, 24, 25, 26, 28, 29, 30, 31, 32, 33, 34, 35, 36, 37, 38, 39, 40, 41, 27] rfl rfl ?_
  refine aw_istore (q := 1525) (lv' := [(6, .int z1520.1), (5, .int z1496.1), (0, .ref b), (1, .ref (r 0)), (2, .ref (rq 0)), (3, .ref o), (4, .int i)]) dL_law_1523 rfl (by decide) rfl ?_
  refine aw_aload_n (q := 1526) dL_law_1525 rfl 4 rfl ?_
  refine aw_call (q := 1529) (kc1 := kc + 297) (ks1 := ks + 16982) (wc := WM rq z1520.2) (wr := WX r z1496.2.1 ++ [OC o z1496.2.2 sv]) (st1 := fun z1526 g1526 => [.int z1526.1]) (ws1 := fun z1526 g1526 => (WX r z1496.2.1 ++ [OC o z1496.2.2 sv]) ++ WM rq z1526.2) (As := [.ref (rq 0)]) [27, 28, 29, 30, 31, 32, 33, 34, 35, 36, 37, 38, 39, 40] [0, 1, 2, 3, 4, 5, 6, 7, 8, 9, 10, 11, 12, 13, 14, 15, 16, 17, 18, 19, 20, 21, 22, 23, 24, 25, 26, 41] (fun _ => runV (q0 := 27) dL_law_1526 mi_X7_thrown im_X7_thrown se_X7_thrown ml_L_237 (by omega) rfl (Nat.le_of_ble_eq_true rfl) rfl rfl rfl rfl) (fun x9 h9 => ogM_thrown h9) rfl rfl rfl rfl rfl (by decide +kernel) (by omega) (by omega) (fun _ _ => rfl) (fun _ _ => rfl) (fun z1526 g1526 => ?_)
  refine aw_world (ws' := (WA r rq o z1496.2.1 z1526.2 z1496.2.2 sv)) [0, 1, 2, 3, 4, 5, 6, 7, 8, 9, 10, 11, 12, 13, 14, 15, 16, 17, 18, 19, 20, 21, 22, 23, 24, 25, 26, 28, 29, 30, 31, 32, 33, 34, 35, 36, 37, 38, 39, 40, 41, 27] rfl rfl ?_
  refine aw_iload (q := 1531) dL_law_1529 rfl 1 rfl ?_
  refine aw_icmp_eq (tgt := 1536) (q := 1534) dL_law_1531 (by decide) rfl (fun h_1531 => ?_) (fun h_1531 => ?_)
  · refine aw_iload (q := 1538) dL_law_1536 rfl 1 rfl ?_
    refine aw_if_ne (tgt := 1554) (q := 1541) dL_law_1538 (by decide) rfl (fun h_1538 => ?_) (fun h_1538 => ?_)
    · refine aw_goto (tgt := 2084) dL_law_1554 (by decide) ?_
      refine aw_iinc (q := 2087) (v := (i + (6 : Int32))) (lv' := [(4, .int (i + (6 : Int32))), (6, .int z1520.1), (5, .int z1496.1), (0, .ref b), (1, .ref (r 0)), (2, .ref (rq 0)), (3, .ref o)]) dL_law_2084 rfl 6 rfl rfl (by decide) rfl ?_
      refine aw_goto (tgt := 27) dL_law_2087 (by decide) ?_
      refine aw_locals (lv' := [(0, .ref b), (1, .ref (r 0)), (2, .ref (rq 0)), (3, .ref o), (4, .int (i + (6 : Int32)))]) [3, 4, 5, 6, 0] rfl ?_
      refine aw_room (kc' := kc) (ks' := ks) (by omega) (by omega) ?_
      exact hk _ _ _ _ _
    · refine aw_aload_n (q := 1542) dL_law_1541 rfl 5 rfl ?_
      refine aw_getN (q := 1545) dL_law_1542 rfl fn_L_13 41 rfl rfl ?_
      refine aw_iload (q := 1547) dL_law_1545 rfl 0 rfl ?_
      refine aw_i2l (q := 1548) dL_law_1547 rfl ?_
      refine aw_lcmp (q := 1549) dL_law_1548 rfl ?_
      refine aw_if_eq (tgt := 1554) (q := 1552) dL_law_1549 (by decide) rfl (fun h_1549 => ?_) (fun h_1549 => ?_)
      · refine aw_goto (tgt := 2084) dL_law_1554 (by decide) ?_
        refine aw_iinc (q := 2087) (v := (i + (6 : Int32))) (lv' := [(4, .int (i + (6 : Int32))), (6, .int z1520.1), (5, .int z1496.1), (0, .ref b), (1, .ref (r 0)), (2, .ref (rq 0)), (3, .ref o)]) dL_law_2084 rfl 6 rfl rfl (by decide) rfl ?_
        refine aw_goto (tgt := 27) dL_law_2087 (by decide) ?_
        refine aw_locals (lv' := [(0, .ref b), (1, .ref (r 0)), (2, .ref (rq 0)), (3, .ref o), (4, .int (i + (6 : Int32)))]) [3, 4, 5, 6, 0] rfl ?_
        refine aw_room (kc' := kc) (ks' := ks) (by omega) (by omega) ?_
        exact hk _ _ _ _ _
      · refine aw_iconst (q := 1553) (v := 0) dL_law_1552 rfl (by decide) ?_
        exact aw_ireturn (w := []) [] dL_law_1553 rfl rfl rfl rfl rfl
  · refine aw_iconst (q := 1535) (v := 0) dL_law_1534 rfl (by decide) ?_
    exact aw_ireturn (w := []) [] dL_law_1535 rfl rfl rfl rfl rfl
def flc_25 (N K L : Nat) (xs : Nat → Int32) (k : Int32 → CS → MS → Int64 → Option Int32) (i : Int32) (S : CS) (M : MS) (nv : Int64) : Option Int32 :=
  (if (i + (1 : Int32)) < 0 ∨ L ≤ (i + (1 : Int32)).toNatClampNeg then none else (if (i + (2 : Int32)) < 0 ∨ L ≤ (i + (2 : Int32)).toNatClampNeg then none else (if (i + (3 : Int32)) < 0 ∨ L ≤ (i + (3 : Int32)).toNatClampNeg then none else ((gL_addPart N K S (xs (i + (1 : Int32)).toNatClampNeg) (xs (i + (2 : Int32)).toNatClampNeg) (xs (i + (3 : Int32)).toNatClampNeg) nv).bind (fun z1577 => (if (i + (1 : Int32)) < 0 ∨ L ≤ (i + (1 : Int32)).toNatClampNeg then none else (if (i + (2 : Int32)) < 0 ∨ L ≤ (i + (2 : Int32)).toNatClampNeg then none else (if (i + (3 : Int32)) < 0 ∨ L ≤ (i + (3 : Int32)).toNatClampNeg then none else ((gM_addPart N K M (xs (i + (1 : Int32)).toNatClampNeg) (xs (i + (2 : Int32)).toNatClampNeg) (xs (i + (3 : Int32)).toNatClampNeg)).bind (fun z1601 => k (i + (6 : Int32)) z1577.2.1 z1601.2 z1577.2.2))))))))))
set_option maxHeartbeats 4000000 in
set_option maxRecDepth 100000 in
theorem tlc_25 {nm : String} {hh : List (Nat × Nat × Nat × Nat)} {N K b L kc ks : Nat} {xs : Nat → Int32} {r rq : Nat → Nat} {o : Nat} {k : Int32 → CS → MS → Int64 → Option Int32} (hk : ∀ (i : Int32) (S : CS) (M : MS) (nv : Int64) (sv : Value), AW RL nm cL_law 7 (some .boolean) hh (XS b L xs) (2 * K + 20) (PZ) kc ks (k i S M nv) 27 [(0, .ref b), (1, .ref (r 0)), (2, .ref (rq 0)), (3, .ref o), (4, .int i)] [] (WA r rq o S M nv sv)) (i : Int32) (S : CS) (M : MS) (nv : Int64) (sv : Value) : AW RL nm cL_law 7 (some .boolean) hh (XS b L xs) (2 * K + 20) (PZ) (kc + 300) (ks + 17000) (flc_25 N K L xs k i S M nv) 1557 [(0, .ref b), (1, .ref (r 0)), (2, .ref (rq 0)), (3, .ref o), (4, .int i)] [] (WA r rq o S M nv sv) := by
  unfold flc_25
  refine aw_aload_n (q := 1558) dL_law_1557 rfl 1 rfl ?_
  refine aw_aload_n (q := 1559) dL_law_1558 rfl 0 rfl ?_
  refine aw_iload (q := 1561) dL_law_1559 rfl 4 rfl ?_
  refine aw_iconst (q := 1562) (v := 1) dL_law_1561 rfl (by decide) ?_
  refine aw_iadd (q := 1563) dL_law_1562 rfl ?_
  refine aw_sld (q := 1564) dL_law_1563 rfl ?_
  refine aw_aload_n (q := 1565) dL_law_1564 rfl 0 rfl ?_
  refine aw_iload (q := 1567) dL_law_1565 rfl 4 rfl ?_
  refine aw_iconst (q := 1568) (v := 2) dL_law_1567 rfl (by decide) ?_
  refine aw_iadd (q := 1569) dL_law_1568 rfl ?_
  refine aw_sld (q := 1570) dL_law_1569 rfl ?_
  refine aw_aload_n (q := 1571) dL_law_1570 rfl 0 rfl ?_
  refine aw_iload (q := 1573) dL_law_1571 rfl 4 rfl ?_
  refine aw_iconst (q := 1574) (v := 3) dL_law_1573 rfl (by decide) ?_
  refine aw_iadd (q := 1575) dL_law_1574 rfl ?_
  refine aw_sld (q := 1576) dL_law_1575 rfl ?_
  refine aw_aload_n (q := 1577) dL_law_1576 rfl 3 rfl ?_
  refine aw_call (q := 1580) (kc1 := kc + 297) (ks1 := ks + 16982) (wc := WX r S ++ [OC o nv sv]) (wr := WM rq M) (st1 := fun z1577 g1577 => [.int z1577.1]) (ws1 := fun z1577 g1577 => WM rq M ++ (WX r z1577.2.1 ++ [OC o z1577.2.2 sv])) (As := [.ref (r 0), .int (xs (i + (1 : Int32)).toNatClampNeg), .int (xs (i + (2 : Int32)).toNatClampNeg), .int (xs (i + (3 : Int32)).toNatClampNeg), .ref o]) [0, 1, 2, 3, 4, 5, 6, 7, 8, 9, 10, 11, 12, 13, 14, 15, 16, 17, 18, 19, 20, 21, 22, 23, 24, 25, 26, 41] [27, 28, 29, 30, 31, 32, 33, 34, 35, 36, 37, 38, 39, 40] (fun _ => runSX dL_law_1577 mix_L_addPart st_L_addPart ml_L_241 (by omega) rfl (Nat.le_of_ble_eq_true rfl) rfl) (fun x9 h9 => ogL_addPart h9) rfl rfl rfl rfl rfl (by decide +kernel) (by omega) (by omega) (fun _ _ => rfl) (fun _ _ => rfl) (fun z1577 g1577 => ?_)
  refine aw_world (ws' := (WA r rq o z1577.2.1 M z1577.2.2 sv)) [14, 15, 16, 17, 18, 19, 20, 21, 22, 23, 24, 25, 26, 27, 28, 29, 30, 31, 32, 33, 34, 35, 36, 37, 38, 39, 40, 0, 1, 2, 3, 4, 5, 6, 7, 8, 9, 10, 11, 12, 13, 41] rfl rfl ?_
  refine aw_istore (q := 1582) (lv' := [(5, .int z1577.1), (0, .ref b), (1, .ref (r 0)), (2, .ref (rq 0)), (3, .ref o), (4, .int i)]) dL_law_1580 rfl (by decide) rfl ?_
  refine aw_aload_n (q := 1583) dL_law_1582 rfl 3 rfl ?_
  refine aw_aload_n (q := 1584) dL_law_1583 rfl 1 rfl ?_
  refine aw_iload (q := 1586) dL_law_1584 rfl 5 rfl ?_
  refine aw_iconst (q := 1587) (v := 1) dL_law_1586 rfl (by decide) ?_
  refine aw_iadd (q := 1588) dL_law_1587 rfl ?_
  refine aw_sld (q := 1589) dL_law_1588 rfl ?_
  refine aw_aload_n (q := 1590) dL_law_1589 rfl 1 rfl ?_
  refine aw_iload (q := 1592) dL_law_1590 rfl 5 rfl ?_
  refine aw_iconst (q := 1593) (v := 2) dL_law_1592 rfl (by decide) ?_
  refine aw_iadd (q := 1594) dL_law_1593 rfl ?_
  refine aw_sld (q := 1595) dL_law_1594 rfl ?_
  refine aw_aload_n (q := 1596) dL_law_1595 rfl 1 rfl ?_
  refine aw_iload (q := 1598) dL_law_1596 rfl 5 rfl ?_
  refine aw_iconst (q := 1599) (v := 3) dL_law_1598 rfl (by decide) ?_
  refine aw_iadd (q := 1600) dL_law_1599 rfl ?_
  refine aw_sld (q := 1601) dL_law_1600 rfl ?_
  refine aw_call (q := 1604) (kc1 := kc + 297) (ks1 := ks + 16982) (wc := WM rq M) (wr := WX r z1577.2.1 ++ [OC o z1577.2.2 sv]) (st1 := fun z1601 g1601 => [.int z1601.1]) (ws1 := fun z1601 g1601 => (WX r z1577.2.1 ++ [OC o z1577.2.2 sv]) ++ WM rq z1601.2) (As := [.ref (rq 0), .int (xs (i + (1 : Int32)).toNatClampNeg), .int (xs (i + (2 : Int32)).toNatClampNeg), .int (xs (i + (3 : Int32)).toNatClampNeg)]) [27, 28, 29, 30, 31, 32, 33, 34, 35, 36, 37, 38, 39, 40] [0, 1, 2, 3, 4, 5, 6, 7, 8, 9, 10, 11, 12, 13, 14, 15, 16, 17, 18, 19, 20, 21, 22, 23, 24, 25, 26, 41] (fun _ => runV (q0 := 27) dL_law_1601 mi_X7_addPart im_X7_addPart se_X7_addPart ml_L_243 (by omega) rfl (Nat.le_of_ble_eq_true rfl) rfl rfl rfl rfl) (fun x9 h9 => ogM_addPart h9) rfl rfl rfl rfl rfl (by decide +kernel) (by omega) (by omega) (fun _ _ => rfl) (fun _ _ => rfl) (fun z1601 g1601 => ?_)
  refine aw_world (ws' := (WA r rq o z1577.2.1 z1601.2 z1577.2.2 sv)) [0, 1, 2, 3, 4, 5, 6, 7, 8, 9, 10, 11, 12, 13, 14, 15, 16, 17, 18, 19, 20, 21, 22, 23, 24, 25, 26, 28, 29, 30, 31, 32, 33, 34, 35, 36, 37, 38, 39, 40, 41, 27] rfl rfl ?_
  refine aw_istore (q := 1606) (lv' := [(6, .int z1601.1), (5, .int z1577.1), (0, .ref b), (1, .ref (r 0)), (2, .ref (rq 0)), (3, .ref o), (4, .int i)]) dL_law_1604 rfl (by decide) rfl ?_
  refine aw_goto (tgt := 2084) dL_law_1606 (by decide) ?_
  refine aw_iinc (q := 2087) (v := (i + (6 : Int32))) (lv' := [(4, .int (i + (6 : Int32))), (6, .int z1601.1), (5, .int z1577.1), (0, .ref b), (1, .ref (r 0)), (2, .ref (rq 0)), (3, .ref o)]) dL_law_2084 rfl 6 rfl rfl (by decide) rfl ?_
  refine aw_goto (tgt := 27) dL_law_2087 (by decide) ?_
  refine aw_locals (lv' := [(0, .ref b), (1, .ref (r 0)), (2, .ref (rq 0)), (3, .ref o), (4, .int (i + (6 : Int32)))]) [3, 4, 5, 6, 0] rfl ?_
  refine aw_room (kc' := kc) (ks' := ks) (by omega) (by omega) ?_
  exact hk _ _ _ _ _
def flc_26 (N K L : Nat) (xs : Nat → Int32) (k : Int32 → CS → MS → Int64 → Option Int32) (i : Int32) (S : CS) (M : MS) (nv : Int64) : Option Int32 :=
  (if (i + (1 : Int32)) < 0 ∨ L ≤ (i + (1 : Int32)).toNatClampNeg then none else (if (i + (2 : Int32)) < 0 ∨ L ≤ (i + (2 : Int32)).toNatClampNeg then none else ((gL_takePart N K S (xs (i + (1 : Int32)).toNatClampNeg) (xs (i + (2 : Int32)).toNatClampNeg) nv).bind (fun z1623 => (if (i + (1 : Int32)) < 0 ∨ L ≤ (i + (1 : Int32)).toNatClampNeg then none else (if (i + (2 : Int32)) < 0 ∨ L ≤ (i + (2 : Int32)).toNatClampNeg then none else ((gM_takePart N K M (xs (i + (1 : Int32)).toNatClampNeg) (xs (i + (2 : Int32)).toNatClampNeg)).bind (fun z1641 => k (i + (6 : Int32)) z1623.2.1 z1641.2 z1623.2.2))))))))
set_option maxHeartbeats 4000000 in
set_option maxRecDepth 100000 in
theorem tlc_26 {nm : String} {hh : List (Nat × Nat × Nat × Nat)} {N K b L kc ks : Nat} {xs : Nat → Int32} {r rq : Nat → Nat} {o : Nat} {k : Int32 → CS → MS → Int64 → Option Int32} (hk : ∀ (i : Int32) (S : CS) (M : MS) (nv : Int64) (sv : Value), AW RL nm cL_law 7 (some .boolean) hh (XS b L xs) (2 * K + 20) (PZ) kc ks (k i S M nv) 27 [(0, .ref b), (1, .ref (r 0)), (2, .ref (rq 0)), (3, .ref o), (4, .int i)] [] (WA r rq o S M nv sv)) (i : Int32) (S : CS) (M : MS) (nv : Int64) (sv : Value) : AW RL nm cL_law 7 (some .boolean) hh (XS b L xs) (2 * K + 20) (PZ) (kc + 300) (ks + 17000) (flc_26 N K L xs k i S M nv) 1609 [(0, .ref b), (1, .ref (r 0)), (2, .ref (rq 0)), (3, .ref o), (4, .int i)] [] (WA r rq o S M nv sv) := by
  unfold flc_26
  refine aw_aload_n (q := 1610) dL_law_1609 rfl 1 rfl ?_
  refine aw_aload_n (q := 1611) dL_law_1610 rfl 0 rfl ?_
  refine aw_iload (q := 1613) dL_law_1611 rfl 4 rfl ?_
  refine aw_iconst (q := 1614) (v := 1) dL_law_1613 rfl (by decide) ?_
  refine aw_iadd (q := 1615) dL_law_1614 rfl ?_
  refine aw_sld (q := 1616) dL_law_1615 rfl ?_
  refine aw_aload_n (q := 1617) dL_law_1616 rfl 0 rfl ?_
  refine aw_iload (q := 1619) dL_law_1617 rfl 4 rfl ?_
  refine aw_iconst (q := 1620) (v := 2) dL_law_1619 rfl (by decide) ?_
  refine aw_iadd (q := 1621) dL_law_1620 rfl ?_
  refine aw_sld (q := 1622) dL_law_1621 rfl ?_
  refine aw_aload_n (q := 1623) dL_law_1622 rfl 3 rfl ?_
  refine aw_call (q := 1626) (kc1 := kc + 298) (ks1 := ks + 16988) (wc := WX r S ++ [OC o nv sv]) (wr := WM rq M) (st1 := fun z1623 g1623 => [.int z1623.1]) (ws1 := fun z1623 g1623 => WM rq M ++ (WX r z1623.2.1 ++ [OC o z1623.2.2 sv])) (As := [.ref (r 0), .int (xs (i + (1 : Int32)).toNatClampNeg), .int (xs (i + (2 : Int32)).toNatClampNeg), .ref o]) [0, 1, 2, 3, 4, 5, 6, 7, 8, 9, 10, 11, 12, 13, 14, 15, 16, 17, 18, 19, 20, 21, 22, 23, 24, 25, 26, 41] [27, 28, 29, 30, 31, 32, 33, 34, 35, 36, 37, 38, 39, 40] (fun _ => runSX dL_law_1623 mix_L_takePart st_L_takePart ml_L_244 (by omega) rfl (Nat.le_of_ble_eq_true rfl) rfl) (fun x9 h9 => ogL_takePart h9) rfl rfl rfl rfl rfl (by decide +kernel) (by omega) (by omega) (fun _ _ => rfl) (fun _ _ => rfl) (fun z1623 g1623 => ?_)
  refine aw_world (ws' := (WA r rq o z1623.2.1 M z1623.2.2 sv)) [14, 15, 16, 17, 18, 19, 20, 21, 22, 23, 24, 25, 26, 27, 28, 29, 30, 31, 32, 33, 34, 35, 36, 37, 38, 39, 40, 0, 1, 2, 3, 4, 5, 6, 7, 8, 9, 10, 11, 12, 13, 41] rfl rfl ?_
  refine aw_istore (q := 1628) (lv' := [(5, .int z1623.1), (0, .ref b), (1, .ref (r 0)), (2, .ref (rq 0)), (3, .ref o), (4, .int i)]) dL_law_1626 rfl (by decide) rfl ?_
  refine aw_aload_n (q := 1629) dL_law_1628 rfl 3 rfl ?_
  refine aw_aload_n (q := 1630) dL_law_1629 rfl 1 rfl ?_
  refine aw_iload (q := 1632) dL_law_1630 rfl 5 rfl ?_
  refine aw_iconst (q := 1633) (v := 1) dL_law_1632 rfl (by decide) ?_
  refine aw_iadd (q := 1634) dL_law_1633 rfl ?_
  refine aw_sld (q := 1635) dL_law_1634 rfl ?_
  refine aw_aload_n (q := 1636) dL_law_1635 rfl 1 rfl ?_
  refine aw_iload (q := 1638) dL_law_1636 rfl 5 rfl ?_
  refine aw_iconst (q := 1639) (v := 2) dL_law_1638 rfl (by decide) ?_
  refine aw_iadd (q := 1640) dL_law_1639 rfl ?_
  refine aw_sld (q := 1641) dL_law_1640 rfl ?_
  refine aw_call (q := 1644) (kc1 := kc + 298) (ks1 := ks + 16988) (wc := WM rq M) (wr := WX r z1623.2.1 ++ [OC o z1623.2.2 sv]) (st1 := fun z1641 g1641 => [.int z1641.1]) (ws1 := fun z1641 g1641 => (WX r z1623.2.1 ++ [OC o z1623.2.2 sv]) ++ WM rq z1641.2) (As := [.ref (rq 0), .int (xs (i + (1 : Int32)).toNatClampNeg), .int (xs (i + (2 : Int32)).toNatClampNeg)]) [27, 28, 29, 30, 31, 32, 33, 34, 35, 36, 37, 38, 39, 40] [0, 1, 2, 3, 4, 5, 6, 7, 8, 9, 10, 11, 12, 13, 14, 15, 16, 17, 18, 19, 20, 21, 22, 23, 24, 25, 26, 41] (fun _ => runV (q0 := 27) dL_law_1641 mi_X7_takePart im_X7_takePart se_X7_takePart ml_L_246 (by omega) rfl (Nat.le_of_ble_eq_true rfl) rfl rfl rfl rfl) (fun x9 h9 => ogM_takePart h9) rfl rfl rfl rfl rfl (by decide +kernel) (by omega) (by omega) (fun _ _ => rfl) (fun _ _ => rfl) (fun z1641 g1641 => ?_)
  refine aw_world (ws' := (WA r rq o z1623.2.1 z1641.2 z1623.2.2 sv)) [0, 1, 2, 3, 4, 5, 6, 7, 8, 9, 10, 11, 12, 13, 14, 15, 16, 17, 18, 19, 20, 21, 22, 23, 24, 25, 26, 28, 29, 30, 31, 32, 33, 34, 35, 36, 37, 38, 39, 40, 41, 27] rfl rfl ?_
  refine aw_istore (q := 1646) (lv' := [(6, .int z1641.1), (5, .int z1623.1), (0, .ref b), (1, .ref (r 0)), (2, .ref (rq 0)), (3, .ref o), (4, .int i)]) dL_law_1644 rfl (by decide) rfl ?_
  refine aw_goto (tgt := 2084) dL_law_1646 (by decide) ?_
  refine aw_iinc (q := 2087) (v := (i + (6 : Int32))) (lv' := [(4, .int (i + (6 : Int32))), (6, .int z1641.1), (5, .int z1623.1), (0, .ref b), (1, .ref (r 0)), (2, .ref (rq 0)), (3, .ref o)]) dL_law_2084 rfl 6 rfl rfl (by decide) rfl ?_
  refine aw_goto (tgt := 27) dL_law_2087 (by decide) ?_
  refine aw_locals (lv' := [(0, .ref b), (1, .ref (r 0)), (2, .ref (rq 0)), (3, .ref o), (4, .int (i + (6 : Int32)))]) [3, 4, 5, 6, 0] rfl ?_
  refine aw_room (kc' := kc) (ks' := ks) (by omega) (by omega) ?_
  exact hk _ _ _ _ _
def flc_27 (N K L : Nat) (xs : Nat → Int32) (k : Int32 → CS → MS → Int64 → Option Int32) (i : Int32) (S : CS) (M : MS) (nv : Int64) : Option Int32 :=
  (if (i + (1 : Int32)) < 0 ∨ L ≤ (i + (1 : Int32)).toNatClampNeg then none else (if (i + (2 : Int32)) < 0 ∨ L ≤ (i + (2 : Int32)).toNatClampNeg then none else ((gL_layFirst N K S (xs (i + (1 : Int32)).toNatClampNeg) (xs (i + (2 : Int32)).toNatClampNeg) nv).bind (fun z1663 => (if (i + (1 : Int32)) < 0 ∨ L ≤ (i + (1 : Int32)).toNatClampNeg then none else (if (i + (2 : Int32)) < 0 ∨ L ≤ (i + (2 : Int32)).toNatClampNeg then none else ((gM_layFirst N K M (xs (i + (1 : Int32)).toNatClampNeg) (xs (i + (2 : Int32)).toNatClampNeg)).bind (fun z1681 => k (i + (6 : Int32)) z1663.2.1 z1681.2 z1663.2.2))))))))
set_option maxHeartbeats 4000000 in
set_option maxRecDepth 100000 in
theorem tlc_27 {nm : String} {hh : List (Nat × Nat × Nat × Nat)} {N K b L kc ks : Nat} {xs : Nat → Int32} {r rq : Nat → Nat} {o : Nat} {k : Int32 → CS → MS → Int64 → Option Int32} (hk : ∀ (i : Int32) (S : CS) (M : MS) (nv : Int64) (sv : Value), AW RL nm cL_law 7 (some .boolean) hh (XS b L xs) (2 * K + 20) (PZ) kc ks (k i S M nv) 27 [(0, .ref b), (1, .ref (r 0)), (2, .ref (rq 0)), (3, .ref o), (4, .int i)] [] (WA r rq o S M nv sv)) (i : Int32) (S : CS) (M : MS) (nv : Int64) (sv : Value) : AW RL nm cL_law 7 (some .boolean) hh (XS b L xs) (2 * K + 20) (PZ) (kc + 300) (ks + 17000) (flc_27 N K L xs k i S M nv) 1649 [(0, .ref b), (1, .ref (r 0)), (2, .ref (rq 0)), (3, .ref o), (4, .int i)] [] (WA r rq o S M nv sv) := by
  unfold flc_27
  refine aw_aload_n (q := 1650) dL_law_1649 rfl 1 rfl ?_
  refine aw_aload_n (q := 1651) dL_law_1650 rfl 0 rfl ?_
  refine aw_iload (q := 1653) dL_law_1651 rfl 4 rfl ?_
  refine aw_iconst (q := 1654) (v := 1) dL_law_1653 rfl (by decide) ?_
  refine aw_iadd (q := 1655) dL_law_1654 rfl ?_
  refine aw_sld (q := 1656) dL_law_1655 rfl ?_
  refine aw_aload_n (q := 1657) dL_law_1656 rfl 0 rfl ?_
  refine aw_iload (q := 1659) dL_law_1657 rfl 4 rfl ?_
  refine aw_iconst (q := 1660) (v := 2) dL_law_1659 rfl (by decide) ?_
  refine aw_iadd (q := 1661) dL_law_1660 rfl ?_
  refine aw_sld (q := 1662) dL_law_1661 rfl ?_
  refine aw_aload_n (q := 1663) dL_law_1662 rfl 3 rfl ?_
  refine aw_call (q := 1666) (kc1 := kc + 298) (ks1 := ks + 16988) (wc := WX r S ++ [OC o nv sv]) (wr := WM rq M) (st1 := fun z1663 g1663 => [.int z1663.1]) (ws1 := fun z1663 g1663 => WM rq M ++ (WX r z1663.2.1 ++ [OC o z1663.2.2 sv])) (As := [.ref (r 0), .int (xs (i + (1 : Int32)).toNatClampNeg), .int (xs (i + (2 : Int32)).toNatClampNeg), .ref o]) [0, 1, 2, 3, 4, 5, 6, 7, 8, 9, 10, 11, 12, 13, 14, 15, 16, 17, 18, 19, 20, 21, 22, 23, 24, 25, 26, 41] [27, 28, 29, 30, 31, 32, 33, 34, 35, 36, 37, 38, 39, 40] (fun _ => runSX dL_law_1663 mix_L_layFirst st_L_layFirst ml_L_247 (by omega) rfl (Nat.le_of_ble_eq_true rfl) rfl) (fun x9 h9 => ogL_layFirst h9) rfl rfl rfl rfl rfl (by decide +kernel) (by omega) (by omega) (fun _ _ => rfl) (fun _ _ => rfl) (fun z1663 g1663 => ?_)
  refine aw_world (ws' := (WA r rq o z1663.2.1 M z1663.2.2 sv)) [14, 15, 16, 17, 18, 19, 20, 21, 22, 23, 24, 25, 26, 27, 28, 29, 30, 31, 32, 33, 34, 35, 36, 37, 38, 39, 40, 0, 1, 2, 3, 4, 5, 6, 7, 8, 9, 10, 11, 12, 13, 41] rfl rfl ?_
  refine aw_istore (q := 1668) (lv' := [(5, .int z1663.1), (0, .ref b), (1, .ref (r 0)), (2, .ref (rq 0)), (3, .ref o), (4, .int i)]) dL_law_1666 rfl (by decide) rfl ?_
  refine aw_aload_n (q := 1669) dL_law_1668 rfl 3 rfl ?_
  refine aw_aload_n (q := 1670) dL_law_1669 rfl 1 rfl ?_
  refine aw_iload (q := 1672) dL_law_1670 rfl 5 rfl ?_
  refine aw_iconst (q := 1673) (v := 1) dL_law_1672 rfl (by decide) ?_
  refine aw_iadd (q := 1674) dL_law_1673 rfl ?_
  refine aw_sld (q := 1675) dL_law_1674 rfl ?_
  refine aw_aload_n (q := 1676) dL_law_1675 rfl 1 rfl ?_
  refine aw_iload (q := 1678) dL_law_1676 rfl 5 rfl ?_
  refine aw_iconst (q := 1679) (v := 2) dL_law_1678 rfl (by decide) ?_
  refine aw_iadd (q := 1680) dL_law_1679 rfl ?_
  refine aw_sld (q := 1681) dL_law_1680 rfl ?_
  refine aw_call (q := 1684) (kc1 := kc + 297) (ks1 := ks + 16967) (wc := WM rq M) (wr := WX r z1663.2.1 ++ [OC o z1663.2.2 sv]) (st1 := fun z1681 g1681 => [.int z1681.1]) (ws1 := fun z1681 g1681 => (WX r z1663.2.1 ++ [OC o z1663.2.2 sv]) ++ WM rq z1681.2) (As := [.ref (rq 0), .int (xs (i + (1 : Int32)).toNatClampNeg), .int (xs (i + (2 : Int32)).toNatClampNeg)]) [27, 28, 29, 30, 31, 32, 33, 34, 35, 36, 37, 38, 39, 40] [0, 1, 2, 3, 4, 5, 6, 7, 8, 9, 10, 11, 12, 13, 14, 15, 16, 17, 18, 19, 20, 21, 22, 23, 24, 25, 26, 41] (fun _ => runV (q0 := 27) dL_law_1681 mi_X7_layFirst im_X7_layFirst se_X7_layFirst ml_L_249 (by omega) rfl (Nat.le_of_ble_eq_true rfl) rfl rfl rfl rfl) (fun x9 h9 => ogM_layFirst h9) rfl rfl rfl rfl rfl (by decide +kernel) (by omega) (by omega) (fun _ _ => rfl) (fun _ _ => rfl) (fun z1681 g1681 => ?_)
  refine aw_world (ws' := (WA r rq o z1663.2.1 z1681.2 z1663.2.2 sv)) [0, 1, 2, 3, 4, 5, 6, 7, 8, 9, 10, 11, 12, 13, 14, 15, 16, 17, 18, 19, 20, 21, 22, 23, 24, 25, 26, 28, 29, 30, 31, 32, 33, 34, 35, 36, 37, 38, 39, 40, 41, 27] rfl rfl ?_
  refine aw_istore (q := 1686) (lv' := [(6, .int z1681.1), (5, .int z1663.1), (0, .ref b), (1, .ref (r 0)), (2, .ref (rq 0)), (3, .ref o), (4, .int i)]) dL_law_1684 rfl (by decide) rfl ?_
  refine aw_goto (tgt := 2084) dL_law_1686 (by decide) ?_
  refine aw_iinc (q := 2087) (v := (i + (6 : Int32))) (lv' := [(4, .int (i + (6 : Int32))), (6, .int z1681.1), (5, .int z1663.1), (0, .ref b), (1, .ref (r 0)), (2, .ref (rq 0)), (3, .ref o)]) dL_law_2084 rfl 6 rfl rfl (by decide) rfl ?_
  refine aw_goto (tgt := 27) dL_law_2087 (by decide) ?_
  refine aw_locals (lv' := [(0, .ref b), (1, .ref (r 0)), (2, .ref (rq 0)), (3, .ref o), (4, .int (i + (6 : Int32)))]) [3, 4, 5, 6, 0] rfl ?_
  refine aw_room (kc' := kc) (ks' := ks) (by omega) (by omega) ?_
  exact hk _ _ _ _ _
def flc_28 (N K L : Nat) (xs : Nat → Int32) (k : Int32 → CS → MS → Int64 → Option Int32) (i : Int32) (S : CS) (M : MS) (nv : Int64) : Option Int32 :=
  (if (i + (1 : Int32)) < 0 ∨ L ≤ (i + (1 : Int32)).toNatClampNeg then none else ((gL_next N K S (xs (i + (1 : Int32)).toNatClampNeg) nv).bind (fun z1697 => (if (i + (1 : Int32)) < 0 ∨ L ≤ (i + (1 : Int32)).toNatClampNeg then none else ((gM_next N K M (xs (i + (1 : Int32)).toNatClampNeg)).bind (fun z1709 => k (i + (6 : Int32)) z1697.2.1 z1709.2 z1697.2.2))))))
set_option maxHeartbeats 4000000 in
set_option maxRecDepth 100000 in
theorem tlc_28 {nm : String} {hh : List (Nat × Nat × Nat × Nat)} {N K b L kc ks : Nat} {xs : Nat → Int32} {r rq : Nat → Nat} {o : Nat} {k : Int32 → CS → MS → Int64 → Option Int32} (hk : ∀ (i : Int32) (S : CS) (M : MS) (nv : Int64) (sv : Value), AW RL nm cL_law 7 (some .boolean) hh (XS b L xs) (2 * K + 20) (PZ) kc ks (k i S M nv) 27 [(0, .ref b), (1, .ref (r 0)), (2, .ref (rq 0)), (3, .ref o), (4, .int i)] [] (WA r rq o S M nv sv)) (i : Int32) (S : CS) (M : MS) (nv : Int64) (sv : Value) : AW RL nm cL_law 7 (some .boolean) hh (XS b L xs) (2 * K + 20) (PZ) (kc + 300) (ks + 17000) (flc_28 N K L xs k i S M nv) 1689 [(0, .ref b), (1, .ref (r 0)), (2, .ref (rq 0)), (3, .ref o), (4, .int i)] [] (WA r rq o S M nv sv) := by
  unfold flc_28
  refine aw_aload_n (q := 1690) dL_law_1689 rfl 1 rfl ?_
  refine aw_aload_n (q := 1691) dL_law_1690 rfl 0 rfl ?_
  refine aw_iload (q := 1693) dL_law_1691 rfl 4 rfl ?_
  refine aw_iconst (q := 1694) (v := 1) dL_law_1693 rfl (by decide) ?_
  refine aw_iadd (q := 1695) dL_law_1694 rfl ?_
  refine aw_sld (q := 1696) dL_law_1695 rfl ?_
  refine aw_aload_n (q := 1697) dL_law_1696 rfl 3 rfl ?_
  refine aw_call (q := 1700) (kc1 := kc + 299) (ks1 := ks + 16994) (wc := WX r S ++ [OC o nv sv]) (wr := WM rq M) (st1 := fun z1697 g1697 => [.int z1697.1]) (ws1 := fun z1697 g1697 => WM rq M ++ (WX r z1697.2.1 ++ [OC o z1697.2.2 sv])) (As := [.ref (r 0), .int (xs (i + (1 : Int32)).toNatClampNeg), .ref o]) [0, 1, 2, 3, 4, 5, 6, 7, 8, 9, 10, 11, 12, 13, 14, 15, 16, 17, 18, 19, 20, 21, 22, 23, 24, 25, 26, 41] [27, 28, 29, 30, 31, 32, 33, 34, 35, 36, 37, 38, 39, 40] (fun _ => runSX dL_law_1697 mix_L_next st_L_next ml_L_250 (by omega) rfl (Nat.le_of_ble_eq_true rfl) rfl) (fun x9 h9 => ogL_next h9) rfl rfl rfl rfl rfl (by decide +kernel) (by omega) (by omega) (fun _ _ => rfl) (fun _ _ => rfl) (fun z1697 g1697 => ?_)
  refine aw_world (ws' := (WA r rq o z1697.2.1 M z1697.2.2 sv)) [14, 15, 16, 17, 18, 19, 20, 21, 22, 23, 24, 25, 26, 27, 28, 29, 30, 31, 32, 33, 34, 35, 36, 37, 38, 39, 40, 0, 1, 2, 3, 4, 5, 6, 7, 8, 9, 10, 11, 12, 13, 41] rfl rfl ?_
  refine aw_istore (q := 1702) (lv' := [(5, .int z1697.1), (0, .ref b), (1, .ref (r 0)), (2, .ref (rq 0)), (3, .ref o), (4, .int i)]) dL_law_1700 rfl (by decide) rfl ?_
  refine aw_aload_n (q := 1703) dL_law_1702 rfl 3 rfl ?_
  refine aw_aload_n (q := 1704) dL_law_1703 rfl 1 rfl ?_
  refine aw_iload (q := 1706) dL_law_1704 rfl 5 rfl ?_
  refine aw_iconst (q := 1707) (v := 1) dL_law_1706 rfl (by decide) ?_
  refine aw_iadd (q := 1708) dL_law_1707 rfl ?_
  refine aw_sld (q := 1709) dL_law_1708 rfl ?_
  refine aw_call (q := 1712) (kc1 := kc + 299) (ks1 := ks + 16994) (wc := WM rq M) (wr := WX r z1697.2.1 ++ [OC o z1697.2.2 sv]) (st1 := fun z1709 g1709 => [.int z1709.1]) (ws1 := fun z1709 g1709 => (WX r z1697.2.1 ++ [OC o z1697.2.2 sv]) ++ WM rq z1709.2) (As := [.ref (rq 0), .int (xs (i + (1 : Int32)).toNatClampNeg)]) [27, 28, 29, 30, 31, 32, 33, 34, 35, 36, 37, 38, 39, 40] [0, 1, 2, 3, 4, 5, 6, 7, 8, 9, 10, 11, 12, 13, 14, 15, 16, 17, 18, 19, 20, 21, 22, 23, 24, 25, 26, 41] (fun _ => runV (q0 := 27) dL_law_1709 mi_X7_next im_X7_next se_X7_next ml_L_252 (by omega) rfl (Nat.le_of_ble_eq_true rfl) rfl rfl rfl rfl) (fun x9 h9 => ogM_next h9) rfl rfl rfl rfl rfl (by decide +kernel) (by omega) (by omega) (fun _ _ => rfl) (fun _ _ => rfl) (fun z1709 g1709 => ?_)
  refine aw_world (ws' := (WA r rq o z1697.2.1 z1709.2 z1697.2.2 sv)) [0, 1, 2, 3, 4, 5, 6, 7, 8, 9, 10, 11, 12, 13, 14, 15, 16, 17, 18, 19, 20, 21, 22, 23, 24, 25, 26, 28, 29, 30, 31, 32, 33, 34, 35, 36, 37, 38, 39, 40, 41, 27] rfl rfl ?_
  refine aw_istore (q := 1714) (lv' := [(6, .int z1709.1), (5, .int z1697.1), (0, .ref b), (1, .ref (r 0)), (2, .ref (rq 0)), (3, .ref o), (4, .int i)]) dL_law_1712 rfl (by decide) rfl ?_
  refine aw_goto (tgt := 2084) dL_law_1714 (by decide) ?_
  refine aw_iinc (q := 2087) (v := (i + (6 : Int32))) (lv' := [(4, .int (i + (6 : Int32))), (6, .int z1709.1), (5, .int z1697.1), (0, .ref b), (1, .ref (r 0)), (2, .ref (rq 0)), (3, .ref o)]) dL_law_2084 rfl 6 rfl rfl (by decide) rfl ?_
  refine aw_goto (tgt := 27) dL_law_2087 (by decide) ?_
  refine aw_locals (lv' := [(0, .ref b), (1, .ref (r 0)), (2, .ref (rq 0)), (3, .ref o), (4, .int (i + (6 : Int32)))]) [3, 4, 5, 6, 0] rfl ?_
  refine aw_room (kc' := kc) (ks' := ks) (by omega) (by omega) ?_
  exact hk _ _ _ _ _
def flc_29 (N K L : Nat) (xs : Nat → Int32) (k : Int32 → CS → MS → Int64 → Option Int32) (i : Int32) (S : CS) (M : MS) (nv : Int64) : Option Int32 :=
  (if (i + (1 : Int32)) < 0 ∨ L ≤ (i + (1 : Int32)).toNatClampNeg then none else ((gL_turn N K S (xs (i + (1 : Int32)).toNatClampNeg) nv).bind (fun z1725 => (if (i + (1 : Int32)) < 0 ∨ L ≤ (i + (1 : Int32)).toNatClampNeg then none else ((gM_turn N K M (xs (i + (1 : Int32)).toNatClampNeg)).bind (fun z1737 => k (i + (6 : Int32)) z1725.2.1 z1737.2 z1725.2.2))))))
set_option maxHeartbeats 4000000 in
set_option maxRecDepth 100000 in
theorem tlc_29 {nm : String} {hh : List (Nat × Nat × Nat × Nat)} {N K b L kc ks : Nat} {xs : Nat → Int32} {r rq : Nat → Nat} {o : Nat} {k : Int32 → CS → MS → Int64 → Option Int32} (hk : ∀ (i : Int32) (S : CS) (M : MS) (nv : Int64) (sv : Value), AW RL nm cL_law 7 (some .boolean) hh (XS b L xs) (2 * K + 20) (PZ) kc ks (k i S M nv) 27 [(0, .ref b), (1, .ref (r 0)), (2, .ref (rq 0)), (3, .ref o), (4, .int i)] [] (WA r rq o S M nv sv)) (i : Int32) (S : CS) (M : MS) (nv : Int64) (sv : Value) : AW RL nm cL_law 7 (some .boolean) hh (XS b L xs) (2 * K + 20) (PZ) (kc + 300) (ks + 17000) (flc_29 N K L xs k i S M nv) 1717 [(0, .ref b), (1, .ref (r 0)), (2, .ref (rq 0)), (3, .ref o), (4, .int i)] [] (WA r rq o S M nv sv) := by
  unfold flc_29
  refine aw_aload_n (q := 1718) dL_law_1717 rfl 1 rfl ?_
  refine aw_aload_n (q := 1719) dL_law_1718 rfl 0 rfl ?_
  refine aw_iload (q := 1721) dL_law_1719 rfl 4 rfl ?_
  refine aw_iconst (q := 1722) (v := 1) dL_law_1721 rfl (by decide) ?_
  refine aw_iadd (q := 1723) dL_law_1722 rfl ?_
  refine aw_sld (q := 1724) dL_law_1723 rfl ?_
  refine aw_aload_n (q := 1725) dL_law_1724 rfl 3 rfl ?_
  refine aw_call (q := 1728) (kc1 := kc + 299) (ks1 := ks + 16994) (wc := WX r S ++ [OC o nv sv]) (wr := WM rq M) (st1 := fun z1725 g1725 => [.int z1725.1]) (ws1 := fun z1725 g1725 => WM rq M ++ (WX r z1725.2.1 ++ [OC o z1725.2.2 sv])) (As := [.ref (r 0), .int (xs (i + (1 : Int32)).toNatClampNeg), .ref o]) [0, 1, 2, 3, 4, 5, 6, 7, 8, 9, 10, 11, 12, 13, 14, 15, 16, 17, 18, 19, 20, 21, 22, 23, 24, 25, 26, 41] [27, 28, 29, 30, 31, 32, 33, 34, 35, 36, 37, 38, 39, 40] (fun _ => runSX dL_law_1725 mix_L_turn st_L_turn ml_L_253 (by omega) rfl (Nat.le_of_ble_eq_true rfl) rfl) (fun x9 h9 => ogL_turn h9) rfl rfl rfl rfl rfl (by decide +kernel) (by omega) (by omega) (fun _ _ => rfl) (fun _ _ => rfl) (fun z1725 g1725 => ?_)
  refine aw_world (ws' := (WA r rq o z1725.2.1 M z1725.2.2 sv)) [14, 15, 16, 17, 18, 19, 20, 21, 22, 23, 24, 25, 26, 27, 28, 29, 30, 31, 32, 33, 34, 35, 36, 37, 38, 39, 40, 0, 1, 2, 3, 4, 5, 6, 7, 8, 9, 10, 11, 12, 13, 41] rfl rfl ?_
  refine aw_istore (q := 1730) (lv' := [(5, .int z1725.1), (0, .ref b), (1, .ref (r 0)), (2, .ref (rq 0)), (3, .ref o), (4, .int i)]) dL_law_1728 rfl (by decide) rfl ?_
  refine aw_aload_n (q := 1731) dL_law_1730 rfl 3 rfl ?_
  refine aw_aload_n (q := 1732) dL_law_1731 rfl 1 rfl ?_
  refine aw_iload (q := 1734) dL_law_1732 rfl 5 rfl ?_
  refine aw_iconst (q := 1735) (v := 1) dL_law_1734 rfl (by decide) ?_
  refine aw_iadd (q := 1736) dL_law_1735 rfl ?_
  refine aw_sld (q := 1737) dL_law_1736 rfl ?_
  refine aw_call (q := 1740) (kc1 := kc + 298) (ks1 := ks + 16973) (wc := WM rq M) (wr := WX r z1725.2.1 ++ [OC o z1725.2.2 sv]) (st1 := fun z1737 g1737 => [.int z1737.1]) (ws1 := fun z1737 g1737 => (WX r z1725.2.1 ++ [OC o z1725.2.2 sv]) ++ WM rq z1737.2) (As := [.ref (rq 0), .int (xs (i + (1 : Int32)).toNatClampNeg)]) [27, 28, 29, 30, 31, 32, 33, 34, 35, 36, 37, 38, 39, 40] [0, 1, 2, 3, 4, 5, 6, 7, 8, 9, 10, 11, 12, 13, 14, 15, 16, 17, 18, 19, 20, 21, 22, 23, 24, 25, 26, 41] (fun _ => runV (q0 := 27) dL_law_1737 mi_X7_turn im_X7_turn se_X7_turn ml_L_255 (by omega) rfl (Nat.le_of_ble_eq_true rfl) rfl rfl rfl rfl) (fun x9 h9 => ogM_turn h9) rfl rfl rfl rfl rfl (by decide +kernel) (by omega) (by omega) (fun _ _ => rfl) (fun _ _ => rfl) (fun z1737 g1737 => ?_)
  refine aw_world (ws' := (WA r rq o z1725.2.1 z1737.2 z1725.2.2 sv)) [0, 1, 2, 3, 4, 5, 6, 7, 8, 9, 10, 11, 12, 13, 14, 15, 16, 17, 18, 19, 20, 21, 22, 23, 24, 25, 26, 28, 29, 30, 31, 32, 33, 34, 35, 36, 37, 38, 39, 40, 41, 27] rfl rfl ?_
  refine aw_istore (q := 1742) (lv' := [(6, .int z1737.1), (5, .int z1725.1), (0, .ref b), (1, .ref (r 0)), (2, .ref (rq 0)), (3, .ref o), (4, .int i)]) dL_law_1740 rfl (by decide) rfl ?_
  refine aw_goto (tgt := 2084) dL_law_1742 (by decide) ?_
  refine aw_iinc (q := 2087) (v := (i + (6 : Int32))) (lv' := [(4, .int (i + (6 : Int32))), (6, .int z1737.1), (5, .int z1725.1), (0, .ref b), (1, .ref (r 0)), (2, .ref (rq 0)), (3, .ref o)]) dL_law_2084 rfl 6 rfl rfl (by decide) rfl ?_
  refine aw_goto (tgt := 27) dL_law_2087 (by decide) ?_
  refine aw_locals (lv' := [(0, .ref b), (1, .ref (r 0)), (2, .ref (rq 0)), (3, .ref o), (4, .int (i + (6 : Int32)))]) [3, 4, 5, 6, 0] rfl ?_
  refine aw_room (kc' := kc) (ks' := ks) (by omega) (by omega) ?_
  exact hk _ _ _ _ _
def flc_30 (N K L : Nat) (xs : Nat → Int32) (k : Int32 → CS → MS → Int64 → Option Int32) (i : Int32) (S : CS) (M : MS) (nv : Int64) : Option Int32 :=
  (if (i + (1 : Int32)) < 0 ∨ L ≤ (i + (1 : Int32)).toNatClampNeg then none else ((gL_toUnlike N K S (xs (i + (1 : Int32)).toNatClampNeg) nv).bind (fun z1753 => (if (i + (1 : Int32)) < 0 ∨ L ≤ (i + (1 : Int32)).toNatClampNeg then none else ((gM_toUnlike N K M (xs (i + (1 : Int32)).toNatClampNeg)).bind (fun z1765 => k (i + (6 : Int32)) z1753.2.1 z1765.2 z1753.2.2))))))
set_option maxHeartbeats 4000000 in
set_option maxRecDepth 100000 in
theorem tlc_30 {nm : String} {hh : List (Nat × Nat × Nat × Nat)} {N K b L kc ks : Nat} {xs : Nat → Int32} {r rq : Nat → Nat} {o : Nat} {k : Int32 → CS → MS → Int64 → Option Int32} (hk : ∀ (i : Int32) (S : CS) (M : MS) (nv : Int64) (sv : Value), AW RL nm cL_law 7 (some .boolean) hh (XS b L xs) (2 * K + 20) (PZ) kc ks (k i S M nv) 27 [(0, .ref b), (1, .ref (r 0)), (2, .ref (rq 0)), (3, .ref o), (4, .int i)] [] (WA r rq o S M nv sv)) (i : Int32) (S : CS) (M : MS) (nv : Int64) (sv : Value) : AW RL nm cL_law 7 (some .boolean) hh (XS b L xs) (2 * K + 20) (PZ) (kc + 300) (ks + 17000) (flc_30 N K L xs k i S M nv) 1745 [(0, .ref b), (1, .ref (r 0)), (2, .ref (rq 0)), (3, .ref o), (4, .int i)] [] (WA r rq o S M nv sv) := by
  unfold flc_30
  refine aw_aload_n (q := 1746) dL_law_1745 rfl 1 rfl ?_
  refine aw_aload_n (q := 1747) dL_law_1746 rfl 0 rfl ?_
  refine aw_iload (q := 1749) dL_law_1747 rfl 4 rfl ?_
  refine aw_iconst (q := 1750) (v := 1) dL_law_1749 rfl (by decide) ?_
  refine aw_iadd (q := 1751) dL_law_1750 rfl ?_
  refine aw_sld (q := 1752) dL_law_1751 rfl ?_
  refine aw_aload_n (q := 1753) dL_law_1752 rfl 3 rfl ?_
  refine aw_call (q := 1756) (kc1 := kc + 299) (ks1 := ks + 16994) (wc := WX r S ++ [OC o nv sv]) (wr := WM rq M) (st1 := fun z1753 g1753 => [.int z1753.1]) (ws1 := fun z1753 g1753 => WM rq M ++ (WX r z1753.2.1 ++ [OC o z1753.2.2 sv])) (As := [.ref (r 0), .int (xs (i + (1 : Int32)).toNatClampNeg), .ref o]) [0, 1, 2, 3, 4, 5, 6, 7, 8, 9, 10, 11, 12, 13, 14, 15, 16, 17, 18, 19, 20, 21, 22, 23, 24, 25, 26, 41] [27, 28, 29, 30, 31, 32, 33, 34, 35, 36, 37, 38, 39, 40] (fun _ => runSX dL_law_1753 mix_L_toUnlike st_L_toUnlike ml_L_256 (by omega) rfl (Nat.le_of_ble_eq_true rfl) rfl) (fun x9 h9 => ogL_toUnlike h9) rfl rfl rfl rfl rfl (by decide +kernel) (by omega) (by omega) (fun _ _ => rfl) (fun _ _ => rfl) (fun z1753 g1753 => ?_)
  refine aw_world (ws' := (WA r rq o z1753.2.1 M z1753.2.2 sv)) [14, 15, 16, 17, 18, 19, 20, 21, 22, 23, 24, 25, 26, 27, 28, 29, 30, 31, 32, 33, 34, 35, 36, 37, 38, 39, 40, 0, 1, 2, 3, 4, 5, 6, 7, 8, 9, 10, 11, 12, 13, 41] rfl rfl ?_
  refine aw_istore (q := 1758) (lv' := [(5, .int z1753.1), (0, .ref b), (1, .ref (r 0)), (2, .ref (rq 0)), (3, .ref o), (4, .int i)]) dL_law_1756 rfl (by decide) rfl ?_
  refine aw_aload_n (q := 1759) dL_law_1758 rfl 3 rfl ?_
  refine aw_aload_n (q := 1760) dL_law_1759 rfl 1 rfl ?_
  refine aw_iload (q := 1762) dL_law_1760 rfl 5 rfl ?_
  refine aw_iconst (q := 1763) (v := 1) dL_law_1762 rfl (by decide) ?_
  refine aw_iadd (q := 1764) dL_law_1763 rfl ?_
  refine aw_sld (q := 1765) dL_law_1764 rfl ?_
  refine aw_call (q := 1768) (kc1 := kc + 298) (ks1 := ks + 16973) (wc := WM rq M) (wr := WX r z1753.2.1 ++ [OC o z1753.2.2 sv]) (st1 := fun z1765 g1765 => [.int z1765.1]) (ws1 := fun z1765 g1765 => (WX r z1753.2.1 ++ [OC o z1753.2.2 sv]) ++ WM rq z1765.2) (As := [.ref (rq 0), .int (xs (i + (1 : Int32)).toNatClampNeg)]) [27, 28, 29, 30, 31, 32, 33, 34, 35, 36, 37, 38, 39, 40] [0, 1, 2, 3, 4, 5, 6, 7, 8, 9, 10, 11, 12, 13, 14, 15, 16, 17, 18, 19, 20, 21, 22, 23, 24, 25, 26, 41] (fun _ => runV (q0 := 27) dL_law_1765 mi_X7_toUnlike im_X7_toUnlike se_X7_toUnlike ml_L_258 (by omega) rfl (Nat.le_of_ble_eq_true rfl) rfl rfl rfl rfl) (fun x9 h9 => ogM_toUnlike h9) rfl rfl rfl rfl rfl (by decide +kernel) (by omega) (by omega) (fun _ _ => rfl) (fun _ _ => rfl) (fun z1765 g1765 => ?_)
  refine aw_world (ws' := (WA r rq o z1753.2.1 z1765.2 z1753.2.2 sv)) [0, 1, 2, 3, 4, 5, 6, 7, 8, 9, 10, 11, 12, 13, 14, 15, 16, 17, 18, 19, 20, 21, 22, 23, 24, 25, 26, 28, 29, 30, 31, 32, 33, 34, 35, 36, 37, 38, 39, 40, 41, 27] rfl rfl ?_
  refine aw_istore (q := 1770) (lv' := [(6, .int z1765.1), (5, .int z1753.1), (0, .ref b), (1, .ref (r 0)), (2, .ref (rq 0)), (3, .ref o), (4, .int i)]) dL_law_1768 rfl (by decide) rfl ?_
  refine aw_goto (tgt := 2084) dL_law_1770 (by decide) ?_
  refine aw_iinc (q := 2087) (v := (i + (6 : Int32))) (lv' := [(4, .int (i + (6 : Int32))), (6, .int z1765.1), (5, .int z1753.1), (0, .ref b), (1, .ref (r 0)), (2, .ref (rq 0)), (3, .ref o)]) dL_law_2084 rfl 6 rfl rfl (by decide) rfl ?_
  refine aw_goto (tgt := 27) dL_law_2087 (by decide) ?_
  refine aw_locals (lv' := [(0, .ref b), (1, .ref (r 0)), (2, .ref (rq 0)), (3, .ref o), (4, .int (i + (6 : Int32)))]) [3, 4, 5, 6, 0] rfl ?_
  refine aw_room (kc' := kc) (ks' := ks) (by omega) (by omega) ?_
  exact hk _ _ _ _ _
def flc_31 (N K L : Nat) (xs : Nat → Int32) (k : Int32 → CS → MS → Int64 → Option Int32) (i : Int32) (S : CS) (M : MS) (nv : Int64) : Option Int32 :=
  (if (i + (1 : Int32)) < 0 ∨ L ≤ (i + (1 : Int32)).toNatClampNeg then none else ((gL_toOdd N K S (xs (i + (1 : Int32)).toNatClampNeg) nv).bind (fun z1781 => (if (i + (1 : Int32)) < 0 ∨ L ≤ (i + (1 : Int32)).toNatClampNeg then none else ((gM_toOdd N K M (xs (i + (1 : Int32)).toNatClampNeg)).bind (fun z1793 => k (i + (6 : Int32)) z1781.2.1 z1793.2 z1781.2.2))))))
set_option maxHeartbeats 4000000 in
set_option maxRecDepth 100000 in
theorem tlc_31 {nm : String} {hh : List (Nat × Nat × Nat × Nat)} {N K b L kc ks : Nat} {xs : Nat → Int32} {r rq : Nat → Nat} {o : Nat} {k : Int32 → CS → MS → Int64 → Option Int32} (hk : ∀ (i : Int32) (S : CS) (M : MS) (nv : Int64) (sv : Value), AW RL nm cL_law 7 (some .boolean) hh (XS b L xs) (2 * K + 20) (PZ) kc ks (k i S M nv) 27 [(0, .ref b), (1, .ref (r 0)), (2, .ref (rq 0)), (3, .ref o), (4, .int i)] [] (WA r rq o S M nv sv)) (i : Int32) (S : CS) (M : MS) (nv : Int64) (sv : Value) : AW RL nm cL_law 7 (some .boolean) hh (XS b L xs) (2 * K + 20) (PZ) (kc + 300) (ks + 17000) (flc_31 N K L xs k i S M nv) 1773 [(0, .ref b), (1, .ref (r 0)), (2, .ref (rq 0)), (3, .ref o), (4, .int i)] [] (WA r rq o S M nv sv) := by
  unfold flc_31
  refine aw_aload_n (q := 1774) dL_law_1773 rfl 1 rfl ?_
  refine aw_aload_n (q := 1775) dL_law_1774 rfl 0 rfl ?_
  refine aw_iload (q := 1777) dL_law_1775 rfl 4 rfl ?_
  refine aw_iconst (q := 1778) (v := 1) dL_law_1777 rfl (by decide) ?_
  refine aw_iadd (q := 1779) dL_law_1778 rfl ?_
  refine aw_sld (q := 1780) dL_law_1779 rfl ?_
  refine aw_aload_n (q := 1781) dL_law_1780 rfl 3 rfl ?_
  refine aw_call (q := 1784) (kc1 := kc + 299) (ks1 := ks + 16994) (wc := WX r S ++ [OC o nv sv]) (wr := WM rq M) (st1 := fun z1781 g1781 => [.int z1781.1]) (ws1 := fun z1781 g1781 => WM rq M ++ (WX r z1781.2.1 ++ [OC o z1781.2.2 sv])) (As := [.ref (r 0), .int (xs (i + (1 : Int32)).toNatClampNeg), .ref o]) [0, 1, 2, 3, 4, 5, 6, 7, 8, 9, 10, 11, 12, 13, 14, 15, 16, 17, 18, 19, 20, 21, 22, 23, 24, 25, 26, 41] [27, 28, 29, 30, 31, 32, 33, 34, 35, 36, 37, 38, 39, 40] (fun _ => runSX dL_law_1781 mix_L_toOdd st_L_toOdd ml_L_259 (by omega) rfl (Nat.le_of_ble_eq_true rfl) rfl) (fun x9 h9 => ogL_toOdd h9) rfl rfl rfl rfl rfl (by decide +kernel) (by omega) (by omega) (fun _ _ => rfl) (fun _ _ => rfl) (fun z1781 g1781 => ?_)
  refine aw_world (ws' := (WA r rq o z1781.2.1 M z1781.2.2 sv)) [14, 15, 16, 17, 18, 19, 20, 21, 22, 23, 24, 25, 26, 27, 28, 29, 30, 31, 32, 33, 34, 35, 36, 37, 38, 39, 40, 0, 1, 2, 3, 4, 5, 6, 7, 8, 9, 10, 11, 12, 13, 41] rfl rfl ?_
  refine aw_istore (q := 1786) (lv' := [(5, .int z1781.1), (0, .ref b), (1, .ref (r 0)), (2, .ref (rq 0)), (3, .ref o), (4, .int i)]) dL_law_1784 rfl (by decide) rfl ?_
  refine aw_aload_n (q := 1787) dL_law_1786 rfl 3 rfl ?_
  refine aw_aload_n (q := 1788) dL_law_1787 rfl 1 rfl ?_
  refine aw_iload (q := 1790) dL_law_1788 rfl 5 rfl ?_
  refine aw_iconst (q := 1791) (v := 1) dL_law_1790 rfl (by decide) ?_
  refine aw_iadd (q := 1792) dL_law_1791 rfl ?_
  refine aw_sld (q := 1793) dL_law_1792 rfl ?_
  refine aw_call (q := 1796) (kc1 := kc + 298) (ks1 := ks + 16973) (wc := WM rq M) (wr := WX r z1781.2.1 ++ [OC o z1781.2.2 sv]) (st1 := fun z1793 g1793 => [.int z1793.1]) (ws1 := fun z1793 g1793 => (WX r z1781.2.1 ++ [OC o z1781.2.2 sv]) ++ WM rq z1793.2) (As := [.ref (rq 0), .int (xs (i + (1 : Int32)).toNatClampNeg)]) [27, 28, 29, 30, 31, 32, 33, 34, 35, 36, 37, 38, 39, 40] [0, 1, 2, 3, 4, 5, 6, 7, 8, 9, 10, 11, 12, 13, 14, 15, 16, 17, 18, 19, 20, 21, 22, 23, 24, 25, 26, 41] (fun _ => runV (q0 := 27) dL_law_1793 mi_X7_toOdd im_X7_toOdd se_X7_toOdd ml_L_261 (by omega) rfl (Nat.le_of_ble_eq_true rfl) rfl rfl rfl rfl) (fun x9 h9 => ogM_toOdd h9) rfl rfl rfl rfl rfl (by decide +kernel) (by omega) (by omega) (fun _ _ => rfl) (fun _ _ => rfl) (fun z1793 g1793 => ?_)
  refine aw_world (ws' := (WA r rq o z1781.2.1 z1793.2 z1781.2.2 sv)) [0, 1, 2, 3, 4, 5, 6, 7, 8, 9, 10, 11, 12, 13, 14, 15, 16, 17, 18, 19, 20, 21, 22, 23, 24, 25, 26, 28, 29, 30, 31, 32, 33, 34, 35, 36, 37, 38, 39, 40, 41, 27] rfl rfl ?_
  refine aw_istore (q := 1798) (lv' := [(6, .int z1793.1), (5, .int z1781.1), (0, .ref b), (1, .ref (r 0)), (2, .ref (rq 0)), (3, .ref o), (4, .int i)]) dL_law_1796 rfl (by decide) rfl ?_
  refine aw_goto (tgt := 2084) dL_law_1798 (by decide) ?_
  refine aw_iinc (q := 2087) (v := (i + (6 : Int32))) (lv' := [(4, .int (i + (6 : Int32))), (6, .int z1793.1), (5, .int z1781.1), (0, .ref b), (1, .ref (r 0)), (2, .ref (rq 0)), (3, .ref o)]) dL_law_2084 rfl 6 rfl rfl (by decide) rfl ?_
  refine aw_goto (tgt := 27) dL_law_2087 (by decide) ?_
  refine aw_locals (lv' := [(0, .ref b), (1, .ref (r 0)), (2, .ref (rq 0)), (3, .ref o), (4, .int (i + (6 : Int32)))]) [3, 4, 5, 6, 0] rfl ?_
  refine aw_room (kc' := kc) (ks' := ks) (by omega) (by omega) ?_
  exact hk _ _ _ _ _
def flc_32 (N K L : Nat) (xs : Nat → Int32) (k : Int32 → CS → MS → Int64 → Option Int32) (i : Int32) (S : CS) (M : MS) (nv : Int64) : Option Int32 :=
  (if (i + (1 : Int32)) < 0 ∨ L ≤ (i + (1 : Int32)).toNatClampNeg then none else ((gL_copyDesk N K S (xs (i + (1 : Int32)).toNatClampNeg) nv).bind (fun z1809 => (if (i + (1 : Int32)) < 0 ∨ L ≤ (i + (1 : Int32)).toNatClampNeg then none else ((gM_copyDesk N K M (xs (i + (1 : Int32)).toNatClampNeg)).bind (fun z1821 => k (i + (6 : Int32)) z1809.2.1 z1821.2 z1809.2.2))))))
set_option maxHeartbeats 4000000 in
set_option maxRecDepth 100000 in
theorem tlc_32 {nm : String} {hh : List (Nat × Nat × Nat × Nat)} {N K b L kc ks : Nat} {xs : Nat → Int32} {r rq : Nat → Nat} {o : Nat} {k : Int32 → CS → MS → Int64 → Option Int32} (hk : ∀ (i : Int32) (S : CS) (M : MS) (nv : Int64) (sv : Value), AW RL nm cL_law 7 (some .boolean) hh (XS b L xs) (2 * K + 20) (PZ) kc ks (k i S M nv) 27 [(0, .ref b), (1, .ref (r 0)), (2, .ref (rq 0)), (3, .ref o), (4, .int i)] [] (WA r rq o S M nv sv)) (i : Int32) (S : CS) (M : MS) (nv : Int64) (sv : Value) : AW RL nm cL_law 7 (some .boolean) hh (XS b L xs) (2 * K + 20) (PZ) (kc + 300) (ks + 17000) (flc_32 N K L xs k i S M nv) 1801 [(0, .ref b), (1, .ref (r 0)), (2, .ref (rq 0)), (3, .ref o), (4, .int i)] [] (WA r rq o S M nv sv) := by
  unfold flc_32
  refine aw_aload_n (q := 1802) dL_law_1801 rfl 1 rfl ?_
  refine aw_aload_n (q := 1803) dL_law_1802 rfl 0 rfl ?_
  refine aw_iload (q := 1805) dL_law_1803 rfl 4 rfl ?_
  refine aw_iconst (q := 1806) (v := 1) dL_law_1805 rfl (by decide) ?_
  refine aw_iadd (q := 1807) dL_law_1806 rfl ?_
  refine aw_sld (q := 1808) dL_law_1807 rfl ?_
  refine aw_aload_n (q := 1809) dL_law_1808 rfl 3 rfl ?_
  refine aw_call (q := 1812) (kc1 := kc + 298) (ks1 := ks + 16988) (wc := WX r S ++ [OC o nv sv]) (wr := WM rq M) (st1 := fun z1809 g1809 => [.int z1809.1]) (ws1 := fun z1809 g1809 => WM rq M ++ (WX r z1809.2.1 ++ [OC o z1809.2.2 sv])) (As := [.ref (r 0), .int (xs (i + (1 : Int32)).toNatClampNeg), .ref o]) [0, 1, 2, 3, 4, 5, 6, 7, 8, 9, 10, 11, 12, 13, 14, 15, 16, 17, 18, 19, 20, 21, 22, 23, 24, 25, 26, 41] [27, 28, 29, 30, 31, 32, 33, 34, 35, 36, 37, 38, 39, 40] (fun _ => runSX dL_law_1809 mix_L_copyDesk st_L_copyDesk ml_L_262 (by omega) rfl (Nat.le_of_ble_eq_true rfl) rfl) (fun x9 h9 => ogL_copyDesk h9) rfl rfl rfl rfl rfl (by decide +kernel) (by omega) (by omega) (fun _ _ => rfl) (fun _ _ => rfl) (fun z1809 g1809 => ?_)
  refine aw_world (ws' := (WA r rq o z1809.2.1 M z1809.2.2 sv)) [14, 15, 16, 17, 18, 19, 20, 21, 22, 23, 24, 25, 26, 27, 28, 29, 30, 31, 32, 33, 34, 35, 36, 37, 38, 39, 40, 0, 1, 2, 3, 4, 5, 6, 7, 8, 9, 10, 11, 12, 13, 41] rfl rfl ?_
  refine aw_istore (q := 1814) (lv' := [(5, .int z1809.1), (0, .ref b), (1, .ref (r 0)), (2, .ref (rq 0)), (3, .ref o), (4, .int i)]) dL_law_1812 rfl (by decide) rfl ?_
  refine aw_aload_n (q := 1815) dL_law_1814 rfl 3 rfl ?_
  refine aw_aload_n (q := 1816) dL_law_1815 rfl 1 rfl ?_
  refine aw_iload (q := 1818) dL_law_1816 rfl 5 rfl ?_
  refine aw_iconst (q := 1819) (v := 1) dL_law_1818 rfl (by decide) ?_
  refine aw_iadd (q := 1820) dL_law_1819 rfl ?_
  refine aw_sld (q := 1821) dL_law_1820 rfl ?_
  refine aw_call (q := 1824) (kc1 := kc + 298) (ks1 := ks + 16988) (wc := WM rq M) (wr := WX r z1809.2.1 ++ [OC o z1809.2.2 sv]) (st1 := fun z1821 g1821 => [.int z1821.1]) (ws1 := fun z1821 g1821 => (WX r z1809.2.1 ++ [OC o z1809.2.2 sv]) ++ WM rq z1821.2) (As := [.ref (rq 0), .int (xs (i + (1 : Int32)).toNatClampNeg)]) [27, 28, 29, 30, 31, 32, 33, 34, 35, 36, 37, 38, 39, 40] [0, 1, 2, 3, 4, 5, 6, 7, 8, 9, 10, 11, 12, 13, 14, 15, 16, 17, 18, 19, 20, 21, 22, 23, 24, 25, 26, 41] (fun _ => runV (q0 := 27) dL_law_1821 mi_X7_copyDesk im_X7_copyDesk se_X7_copyDesk ml_L_264 (by omega) rfl (Nat.le_of_ble_eq_true rfl) rfl rfl rfl rfl) (fun x9 h9 => ogM_copyDesk h9) rfl rfl rfl rfl rfl (by decide +kernel) (by omega) (by omega) (fun _ _ => rfl) (fun _ _ => rfl) (fun z1821 g1821 => ?_)
  refine aw_world (ws' := (WA r rq o z1809.2.1 z1821.2 z1809.2.2 sv)) [0, 1, 2, 3, 4, 5, 6, 7, 8, 9, 10, 11, 12, 13, 14, 15, 16, 17, 18, 19, 20, 21, 22, 23, 24, 25, 26, 28, 29, 30, 31, 32, 33, 34, 35, 36, 37, 38, 39, 40, 41, 27] rfl rfl ?_
  refine aw_istore (q := 1826) (lv' := [(6, .int z1821.1), (5, .int z1809.1), (0, .ref b), (1, .ref (r 0)), (2, .ref (rq 0)), (3, .ref o), (4, .int i)]) dL_law_1824 rfl (by decide) rfl ?_
  refine aw_goto (tgt := 2084) dL_law_1826 (by decide) ?_
  refine aw_iinc (q := 2087) (v := (i + (6 : Int32))) (lv' := [(4, .int (i + (6 : Int32))), (6, .int z1821.1), (5, .int z1809.1), (0, .ref b), (1, .ref (r 0)), (2, .ref (rq 0)), (3, .ref o)]) dL_law_2084 rfl 6 rfl rfl (by decide) rfl ?_
  refine aw_goto (tgt := 27) dL_law_2087 (by decide) ?_
  refine aw_locals (lv' := [(0, .ref b), (1, .ref (r 0)), (2, .ref (rq 0)), (3, .ref o), (4, .int (i + (6 : Int32)))]) [3, 4, 5, 6, 0] rfl ?_
  refine aw_room (kc' := kc) (ks' := ks) (by omega) (by omega) ?_
  exact hk _ _ _ _ _
def flc_33 (N K L : Nat) (xs : Nat → Int32) (k : Int32 → CS → MS → Int64 → Option Int32) (i : Int32) (S : CS) (M : MS) (nv : Int64) : Option Int32 :=
  (if (i + (1 : Int32)) < 0 ∨ L ≤ (i + (1 : Int32)).toNatClampNeg then none else (if (i + (2 : Int32)) < 0 ∨ L ≤ (i + (2 : Int32)).toNatClampNeg then none else ((gL_times N K S (xs (i + (1 : Int32)).toNatClampNeg) (xs (i + (2 : Int32)).toNatClampNeg) nv).bind (fun z1843 => (if (i + (1 : Int32)) < 0 ∨ L ≤ (i + (1 : Int32)).toNatClampNeg then none else (if (i + (2 : Int32)) < 0 ∨ L ≤ (i + (2 : Int32)).toNatClampNeg then none else ((gM_times N K M (xs (i + (1 : Int32)).toNatClampNeg) (xs (i + (2 : Int32)).toNatClampNeg)).bind (fun z1861 => k (i + (6 : Int32)) z1843.2.1 z1861.2 z1843.2.2))))))))
set_option maxHeartbeats 4000000 in
set_option maxRecDepth 100000 in
theorem tlc_33 {nm : String} {hh : List (Nat × Nat × Nat × Nat)} {N K b L kc ks : Nat} {xs : Nat → Int32} {r rq : Nat → Nat} {o : Nat} {k : Int32 → CS → MS → Int64 → Option Int32} (hk : ∀ (i : Int32) (S : CS) (M : MS) (nv : Int64) (sv : Value), AW RL nm cL_law 7 (some .boolean) hh (XS b L xs) (2 * K + 20) (PZ) kc ks (k i S M nv) 27 [(0, .ref b), (1, .ref (r 0)), (2, .ref (rq 0)), (3, .ref o), (4, .int i)] [] (WA r rq o S M nv sv)) (i : Int32) (S : CS) (M : MS) (nv : Int64) (sv : Value) : AW RL nm cL_law 7 (some .boolean) hh (XS b L xs) (2 * K + 20) (PZ) (kc + 300) (ks + 17000) (flc_33 N K L xs k i S M nv) 1829 [(0, .ref b), (1, .ref (r 0)), (2, .ref (rq 0)), (3, .ref o), (4, .int i)] [] (WA r rq o S M nv sv) := by
  unfold flc_33
  refine aw_aload_n (q := 1830) dL_law_1829 rfl 1 rfl ?_
  refine aw_aload_n (q := 1831) dL_law_1830 rfl 0 rfl ?_
  refine aw_iload (q := 1833) dL_law_1831 rfl 4 rfl ?_
  refine aw_iconst (q := 1834) (v := 1) dL_law_1833 rfl (by decide) ?_
  refine aw_iadd (q := 1835) dL_law_1834 rfl ?_
  refine aw_sld (q := 1836) dL_law_1835 rfl ?_
  refine aw_aload_n (q := 1837) dL_law_1836 rfl 0 rfl ?_
  refine aw_iload (q := 1839) dL_law_1837 rfl 4 rfl ?_
  refine aw_iconst (q := 1840) (v := 2) dL_law_1839 rfl (by decide) ?_
  refine aw_iadd (q := 1841) dL_law_1840 rfl ?_
  refine aw_sld (q := 1842) dL_law_1841 rfl ?_
  refine aw_aload_n (q := 1843) dL_law_1842 rfl 3 rfl ?_
  refine aw_call (q := 1846) (kc1 := kc + 298) (ks1 := ks + 16988) (wc := WX r S ++ [OC o nv sv]) (wr := WM rq M) (st1 := fun z1843 g1843 => [.int z1843.1]) (ws1 := fun z1843 g1843 => WM rq M ++ (WX r z1843.2.1 ++ [OC o z1843.2.2 sv])) (As := [.ref (r 0), .int (xs (i + (1 : Int32)).toNatClampNeg), .int (xs (i + (2 : Int32)).toNatClampNeg), .ref o]) [0, 1, 2, 3, 4, 5, 6, 7, 8, 9, 10, 11, 12, 13, 14, 15, 16, 17, 18, 19, 20, 21, 22, 23, 24, 25, 26, 41] [27, 28, 29, 30, 31, 32, 33, 34, 35, 36, 37, 38, 39, 40] (fun _ => runSX dL_law_1843 mix_L_times st_L_times ml_L_265 (by omega) rfl (Nat.le_of_ble_eq_true rfl) rfl) (fun x9 h9 => ogL_times h9) rfl rfl rfl rfl rfl (by decide +kernel) (by omega) (by omega) (fun _ _ => rfl) (fun _ _ => rfl) (fun z1843 g1843 => ?_)
  refine aw_world (ws' := (WA r rq o z1843.2.1 M z1843.2.2 sv)) [14, 15, 16, 17, 18, 19, 20, 21, 22, 23, 24, 25, 26, 27, 28, 29, 30, 31, 32, 33, 34, 35, 36, 37, 38, 39, 40, 0, 1, 2, 3, 4, 5, 6, 7, 8, 9, 10, 11, 12, 13, 41] rfl rfl ?_
  refine aw_istore (q := 1848) (lv' := [(5, .int z1843.1), (0, .ref b), (1, .ref (r 0)), (2, .ref (rq 0)), (3, .ref o), (4, .int i)]) dL_law_1846 rfl (by decide) rfl ?_
  refine aw_aload_n (q := 1849) dL_law_1848 rfl 3 rfl ?_
  refine aw_aload_n (q := 1850) dL_law_1849 rfl 1 rfl ?_
  refine aw_iload (q := 1852) dL_law_1850 rfl 5 rfl ?_
  refine aw_iconst (q := 1853) (v := 1) dL_law_1852 rfl (by decide) ?_
  refine aw_iadd (q := 1854) dL_law_1853 rfl ?_
  refine aw_sld (q := 1855) dL_law_1854 rfl ?_
  refine aw_aload_n (q := 1856) dL_law_1855 rfl 1 rfl ?_
  refine aw_iload (q := 1858) dL_law_1856 rfl 5 rfl ?_
  refine aw_iconst (q := 1859) (v := 2) dL_law_1858 rfl (by decide) ?_
  refine aw_iadd (q := 1860) dL_law_1859 rfl ?_
  refine aw_sld (q := 1861) dL_law_1860 rfl ?_
  refine aw_call (q := 1864) (kc1 := kc + 298) (ks1 := ks + 16988) (wc := WM rq M) (wr := WX r z1843.2.1 ++ [OC o z1843.2.2 sv]) (st1 := fun z1861 g1861 => [.int z1861.1]) (ws1 := fun z1861 g1861 => (WX r z1843.2.1 ++ [OC o z1843.2.2 sv]) ++ WM rq z1861.2) (As := [.ref (rq 0), .int (xs (i + (1 : Int32)).toNatClampNeg), .int (xs (i + (2 : Int32)).toNatClampNeg)]) [27, 28, 29, 30, 31, 32, 33, 34, 35, 36, 37, 38, 39, 40] [0, 1, 2, 3, 4, 5, 6, 7, 8, 9, 10, 11, 12, 13, 14, 15, 16, 17, 18, 19, 20, 21, 22, 23, 24, 25, 26, 41] (fun _ => runV (q0 := 27) dL_law_1861 mi_X7_times im_X7_times se_X7_times ml_L_267 (by omega) rfl (Nat.le_of_ble_eq_true rfl) rfl rfl rfl rfl) (fun x9 h9 => ogM_times h9) rfl rfl rfl rfl rfl (by decide +kernel) (by omega) (by omega) (fun _ _ => rfl) (fun _ _ => rfl) (fun z1861 g1861 => ?_)
  refine aw_world (ws' := (WA r rq o z1843.2.1 z1861.2 z1843.2.2 sv)) [0, 1, 2, 3, 4, 5, 6, 7, 8, 9, 10, 11, 12, 13, 14, 15, 16, 17, 18, 19, 20, 21, 22, 23, 24, 25, 26, 28, 29, 30, 31, 32, 33, 34, 35, 36, 37, 38, 39, 40, 41, 27] rfl rfl ?_
  refine aw_istore (q := 1866) (lv' := [(6, .int z1861.1), (5, .int z1843.1), (0, .ref b), (1, .ref (r 0)), (2, .ref (rq 0)), (3, .ref o), (4, .int i)]) dL_law_1864 rfl (by decide) rfl ?_
  refine aw_goto (tgt := 2084) dL_law_1866 (by decide) ?_
  refine aw_iinc (q := 2087) (v := (i + (6 : Int32))) (lv' := [(4, .int (i + (6 : Int32))), (6, .int z1861.1), (5, .int z1843.1), (0, .ref b), (1, .ref (r 0)), (2, .ref (rq 0)), (3, .ref o)]) dL_law_2084 rfl 6 rfl rfl (by decide) rfl ?_
  refine aw_goto (tgt := 27) dL_law_2087 (by decide) ?_
  refine aw_locals (lv' := [(0, .ref b), (1, .ref (r 0)), (2, .ref (rq 0)), (3, .ref o), (4, .int (i + (6 : Int32)))]) [3, 4, 5, 6, 0] rfl ?_
  refine aw_room (kc' := kc) (ks' := ks) (by omega) (by omega) ?_
  exact hk _ _ _ _ _
def flc_34 (N K L : Nat) (xs : Nat → Int32) (k : Int32 → CS → MS → Int64 → Option Int32) (i : Int32) (S : CS) (M : MS) (nv : Int64) : Option Int32 :=
  (if (i + (1 : Int32)) < 0 ∨ L ≤ (i + (1 : Int32)).toNatClampNeg then none else (if (i + (2 : Int32)) < 0 ∨ L ≤ (i + (2 : Int32)).toNatClampNeg then none else ((gL_way N K S (xs (i + (1 : Int32)).toNatClampNeg) (xs (i + (2 : Int32)).toNatClampNeg) nv).bind (fun z1883 => (if (i + (1 : Int32)) < 0 ∨ L ≤ (i + (1 : Int32)).toNatClampNeg then none else (if (i + (2 : Int32)) < 0 ∨ L ≤ (i + (2 : Int32)).toNatClampNeg then none else ((gM_way N K M (xs (i + (1 : Int32)).toNatClampNeg) (xs (i + (2 : Int32)).toNatClampNeg)).bind (fun z1901 => k (i + (6 : Int32)) z1883.2.1 z1901.2 z1883.2.2))))))))
set_option maxHeartbeats 4000000 in
set_option maxRecDepth 100000 in
theorem tlc_34 {nm : String} {hh : List (Nat × Nat × Nat × Nat)} {N K b L kc ks : Nat} {xs : Nat → Int32} {r rq : Nat → Nat} {o : Nat} {k : Int32 → CS → MS → Int64 → Option Int32} (hk : ∀ (i : Int32) (S : CS) (M : MS) (nv : Int64) (sv : Value), AW RL nm cL_law 7 (some .boolean) hh (XS b L xs) (2 * K + 20) (PZ) kc ks (k i S M nv) 27 [(0, .ref b), (1, .ref (r 0)), (2, .ref (rq 0)), (3, .ref o), (4, .int i)] [] (WA r rq o S M nv sv)) (i : Int32) (S : CS) (M : MS) (nv : Int64) (sv : Value) : AW RL nm cL_law 7 (some .boolean) hh (XS b L xs) (2 * K + 20) (PZ) (kc + 300) (ks + 17000) (flc_34 N K L xs k i S M nv) 1869 [(0, .ref b), (1, .ref (r 0)), (2, .ref (rq 0)), (3, .ref o), (4, .int i)] [] (WA r rq o S M nv sv) := by
  unfold flc_34
  refine aw_aload_n (q := 1870) dL_law_1869 rfl 1 rfl ?_
  refine aw_aload_n (q := 1871) dL_law_1870 rfl 0 rfl ?_
  refine aw_iload (q := 1873) dL_law_1871 rfl 4 rfl ?_
  refine aw_iconst (q := 1874) (v := 1) dL_law_1873 rfl (by decide) ?_
  refine aw_iadd (q := 1875) dL_law_1874 rfl ?_
  refine aw_sld (q := 1876) dL_law_1875 rfl ?_
  refine aw_aload_n (q := 1877) dL_law_1876 rfl 0 rfl ?_
  refine aw_iload (q := 1879) dL_law_1877 rfl 4 rfl ?_
  refine aw_iconst (q := 1880) (v := 2) dL_law_1879 rfl (by decide) ?_
  refine aw_iadd (q := 1881) dL_law_1880 rfl ?_
  refine aw_sld (q := 1882) dL_law_1881 rfl ?_
  refine aw_aload_n (q := 1883) dL_law_1882 rfl 3 rfl ?_
  refine aw_call (q := 1886) (kc1 := kc + 298) (ks1 := ks + 16988) (wc := WX r S ++ [OC o nv sv]) (wr := WM rq M) (st1 := fun z1883 g1883 => [.int z1883.1]) (ws1 := fun z1883 g1883 => WM rq M ++ (WX r z1883.2.1 ++ [OC o z1883.2.2 sv])) (As := [.ref (r 0), .int (xs (i + (1 : Int32)).toNatClampNeg), .int (xs (i + (2 : Int32)).toNatClampNeg), .ref o]) [0, 1, 2, 3, 4, 5, 6, 7, 8, 9, 10, 11, 12, 13, 14, 15, 16, 17, 18, 19, 20, 21, 22, 23, 24, 25, 26, 41] [27, 28, 29, 30, 31, 32, 33, 34, 35, 36, 37, 38, 39, 40] (fun _ => runSX dL_law_1883 mix_L_way st_L_way ml_L_268 (by omega) rfl (Nat.le_of_ble_eq_true rfl) rfl) (fun x9 h9 => ogL_way h9) rfl rfl rfl rfl rfl (by decide +kernel) (by omega) (by omega) (fun _ _ => rfl) (fun _ _ => rfl) (fun z1883 g1883 => ?_)
  refine aw_world (ws' := (WA r rq o z1883.2.1 M z1883.2.2 sv)) [14, 15, 16, 17, 18, 19, 20, 21, 22, 23, 24, 25, 26, 27, 28, 29, 30, 31, 32, 33, 34, 35, 36, 37, 38, 39, 40, 0, 1, 2, 3, 4, 5, 6, 7, 8, 9, 10, 11, 12, 13, 41] rfl rfl ?_
  refine aw_istore (q := 1888) (lv' := [(5, .int z1883.1), (0, .ref b), (1, .ref (r 0)), (2, .ref (rq 0)), (3, .ref o), (4, .int i)]) dL_law_1886 rfl (by decide) rfl ?_
  refine aw_aload_n (q := 1889) dL_law_1888 rfl 3 rfl ?_
  refine aw_aload_n (q := 1890) dL_law_1889 rfl 1 rfl ?_
  refine aw_iload (q := 1892) dL_law_1890 rfl 5 rfl ?_
  refine aw_iconst (q := 1893) (v := 1) dL_law_1892 rfl (by decide) ?_
  refine aw_iadd (q := 1894) dL_law_1893 rfl ?_
  refine aw_sld (q := 1895) dL_law_1894 rfl ?_
  refine aw_aload_n (q := 1896) dL_law_1895 rfl 1 rfl ?_
  refine aw_iload (q := 1898) dL_law_1896 rfl 5 rfl ?_
  refine aw_iconst (q := 1899) (v := 2) dL_law_1898 rfl (by decide) ?_
  refine aw_iadd (q := 1900) dL_law_1899 rfl ?_
  refine aw_sld (q := 1901) dL_law_1900 rfl ?_
  refine aw_call (q := 1904) (kc1 := kc + 298) (ks1 := ks + 16988) (wc := WM rq M) (wr := WX r z1883.2.1 ++ [OC o z1883.2.2 sv]) (st1 := fun z1901 g1901 => [.int z1901.1]) (ws1 := fun z1901 g1901 => (WX r z1883.2.1 ++ [OC o z1883.2.2 sv]) ++ WM rq z1901.2) (As := [.ref (rq 0), .int (xs (i + (1 : Int32)).toNatClampNeg), .int (xs (i + (2 : Int32)).toNatClampNeg)]) [27, 28, 29, 30, 31, 32, 33, 34, 35, 36, 37, 38, 39, 40] [0, 1, 2, 3, 4, 5, 6, 7, 8, 9, 10, 11, 12, 13, 14, 15, 16, 17, 18, 19, 20, 21, 22, 23, 24, 25, 26, 41] (fun _ => runV (q0 := 27) dL_law_1901 mi_X7_way im_X7_way se_X7_way ml_L_270 (by omega) rfl (Nat.le_of_ble_eq_true rfl) rfl rfl rfl rfl) (fun x9 h9 => ogM_way h9) rfl rfl rfl rfl rfl (by decide +kernel) (by omega) (by omega) (fun _ _ => rfl) (fun _ _ => rfl) (fun z1901 g1901 => ?_)
  refine aw_world (ws' := (WA r rq o z1883.2.1 z1901.2 z1883.2.2 sv)) [0, 1, 2, 3, 4, 5, 6, 7, 8, 9, 10, 11, 12, 13, 14, 15, 16, 17, 18, 19, 20, 21, 22, 23, 24, 25, 26, 28, 29, 30, 31, 32, 33, 34, 35, 36, 37, 38, 39, 40, 41, 27] rfl rfl ?_
  refine aw_istore (q := 1906) (lv' := [(6, .int z1901.1), (5, .int z1883.1), (0, .ref b), (1, .ref (r 0)), (2, .ref (rq 0)), (3, .ref o), (4, .int i)]) dL_law_1904 rfl (by decide) rfl ?_
  refine aw_goto (tgt := 2084) dL_law_1906 (by decide) ?_
  refine aw_iinc (q := 2087) (v := (i + (6 : Int32))) (lv' := [(4, .int (i + (6 : Int32))), (6, .int z1901.1), (5, .int z1883.1), (0, .ref b), (1, .ref (r 0)), (2, .ref (rq 0)), (3, .ref o)]) dL_law_2084 rfl 6 rfl rfl (by decide) rfl ?_
  refine aw_goto (tgt := 27) dL_law_2087 (by decide) ?_
  refine aw_locals (lv' := [(0, .ref b), (1, .ref (r 0)), (2, .ref (rq 0)), (3, .ref o), (4, .int (i + (6 : Int32)))]) [3, 4, 5, 6, 0] rfl ?_
  refine aw_room (kc' := kc) (ks' := ks) (by omega) (by omega) ?_
  exact hk _ _ _ _ _
def flc_35 (N K L : Nat) (xs : Nat → Int32) (k : Int32 → CS → MS → Int64 → Option Int32) (i : Int32) (S : CS) (M : MS) (nv : Int64) : Option Int32 :=
  (if (i + (1 : Int32)) < 0 ∨ L ≤ (i + (1 : Int32)).toNatClampNeg then none else ((gL_wayText N K S (xs (i + (1 : Int32)).toNatClampNeg) nv).bind (fun z1917 => (if (i + (1 : Int32)) < 0 ∨ L ≤ (i + (1 : Int32)).toNatClampNeg then none else ((gM_wayText N K M (xs (i + (1 : Int32)).toNatClampNeg)).bind (fun z1929 => k (i + (6 : Int32)) z1917.2.1 z1929 z1917.2.2))))))
set_option maxHeartbeats 4000000 in
set_option maxRecDepth 100000 in
theorem tlc_35 {nm : String} {hh : List (Nat × Nat × Nat × Nat)} {N K b L kc ks : Nat} {xs : Nat → Int32} {r rq : Nat → Nat} {o : Nat} {k : Int32 → CS → MS → Int64 → Option Int32} (hk : ∀ (i : Int32) (S : CS) (M : MS) (nv : Int64) (sv : Value), AW RL nm cL_law 7 (some .boolean) hh (XS b L xs) (2 * K + 20) (PZ) kc ks (k i S M nv) 27 [(0, .ref b), (1, .ref (r 0)), (2, .ref (rq 0)), (3, .ref o), (4, .int i)] [] (WA r rq o S M nv sv)) (i : Int32) (S : CS) (M : MS) (nv : Int64) (sv : Value) : AW RL nm cL_law 7 (some .boolean) hh (XS b L xs) (2 * K + 20) (PZ) (kc + 300) (ks + 17000) (flc_35 N K L xs k i S M nv) 1909 [(0, .ref b), (1, .ref (r 0)), (2, .ref (rq 0)), (3, .ref o), (4, .int i)] [] (WA r rq o S M nv sv) := by
  unfold flc_35
  refine aw_aload_n (q := 1910) dL_law_1909 rfl 1 rfl ?_
  refine aw_aload_n (q := 1911) dL_law_1910 rfl 0 rfl ?_
  refine aw_iload (q := 1913) dL_law_1911 rfl 4 rfl ?_
  refine aw_iconst (q := 1914) (v := 1) dL_law_1913 rfl (by decide) ?_
  refine aw_iadd (q := 1915) dL_law_1914 rfl ?_
  refine aw_sld (q := 1916) dL_law_1915 rfl ?_
  refine aw_aload_n (q := 1917) dL_law_1916 rfl 3 rfl ?_
  refine aw_call (q := 1920) (kc1 := kc + 189) (ks1 := ks + 8994) (wc := WX r S ++ [OC o nv sv]) (wr := WM rq M) (st1 := fun z1917 g1917 => [.int z1917.1]) (ws1 := fun z1917 g1917 => WM rq M ++ (WX r z1917.2.1 ++ [OC o z1917.2.2 (if z1917.1 = 0 then .ref (g1917 0) else sv)])) (As := [.ref (r 0), .int (xs (i + (1 : Int32)).toNatClampNeg), .ref o]) [0, 1, 2, 3, 4, 5, 6, 7, 8, 9, 10, 11, 12, 13, 14, 15, 16, 17, 18, 19, 20, 21, 22, 23, 24, 25, 26, 41] [27, 28, 29, 30, 31, 32, 33, 34, 35, 36, 37, 38, 39, 40] (fun _ => runSX dL_law_1917 mix_L_wayText st_L_wayText ml_L_271 (by omega) rfl (Nat.le_of_ble_eq_true rfl) rfl) (fun x9 h9 => ogL_wayText h9) rfl rfl rfl rfl rfl (by decide +kernel) (by omega) (by omega) (fun _ _ => rfl) (fun _ _ => rfl) (fun z1917 g1917 => ?_)
  refine aw_world (ws' := (WA r rq o z1917.2.1 M z1917.2.2 (if z1917.1 = 0 then .ref (g1917 0) else sv))) [14, 15, 16, 17, 18, 19, 20, 21, 22, 23, 24, 25, 26, 27, 28, 29, 30, 31, 32, 33, 34, 35, 36, 37, 38, 39, 40, 0, 1, 2, 3, 4, 5, 6, 7, 8, 9, 10, 11, 12, 13, 41] rfl rfl ?_
  refine aw_istore (q := 1922) (lv' := [(5, .int z1917.1), (0, .ref b), (1, .ref (r 0)), (2, .ref (rq 0)), (3, .ref o), (4, .int i)]) dL_law_1920 rfl (by decide) rfl ?_
  refine aw_aload_n (q := 1923) dL_law_1922 rfl 3 rfl ?_
  refine aw_aload_n (q := 1924) dL_law_1923 rfl 1 rfl ?_
  refine aw_iload (q := 1926) dL_law_1924 rfl 5 rfl ?_
  refine aw_iconst (q := 1927) (v := 1) dL_law_1926 rfl (by decide) ?_
  refine aw_iadd (q := 1928) dL_law_1927 rfl ?_
  refine aw_sld (q := 1929) dL_law_1928 rfl ?_
  refine aw_call (q := 1932) (kc1 := kc + 79) (ks1 := ks + 994) (wc := WM rq M) (wr := WX r z1917.2.1 ++ [OC o z1917.2.2 (if z1917.1 = 0 then .ref (g1917 0) else sv)]) (st1 := fun z1929 g1929 => [.ref (g1929 0)]) (ws1 := fun z1929 g1929 => (WX r z1917.2.1 ++ [OC o z1917.2.2 (if z1917.1 = 0 then .ref (g1917 0) else sv)]) ++ WM rq z1929) (As := [.ref (rq 0), .int (xs (i + (1 : Int32)).toNatClampNeg)]) [27, 28, 29, 30, 31, 32, 33, 34, 35, 36, 37, 38, 39, 40] [0, 1, 2, 3, 4, 5, 6, 7, 8, 9, 10, 11, 12, 13, 14, 15, 16, 17, 18, 19, 20, 21, 22, 23, 24, 25, 26, 41] (fun _ => runV (q0 := 27) dL_law_1929 mi_X7_wayText im_X7_wayText se_X7_wayText ml_L_273 (by omega) rfl (Nat.le_of_ble_eq_true rfl) rfl rfl rfl rfl) (fun x9 h9 => ogM_wayText h9) rfl rfl rfl rfl rfl (by decide +kernel) (by omega) (by omega) (fun _ _ => rfl) (fun _ _ => rfl) (fun z1929 g1929 => ?_)
  refine aw_world (ws' := (WA r rq o z1917.2.1 z1929 z1917.2.2 (if z1917.1 = 0 then .ref (g1917 0) else sv))) [0, 1, 2, 3, 4, 5, 6, 7, 8, 9, 10, 11, 12, 13, 14, 15, 16, 17, 18, 19, 20, 21, 22, 23, 24, 25, 26, 28, 29, 30, 31, 32, 33, 34, 35, 36, 37, 38, 39, 40, 41, 27] rfl rfl ?_
  refine aw_astore (q := 1934) (lv' := [(6, .ref (g1929 0)), (5, .int z1917.1), (0, .ref b), (1, .ref (r 0)), (2, .ref (rq 0)), (3, .ref o), (4, .int i)]) dL_law_1932 rfl (by decide) rfl ?_
  refine aw_goto (tgt := 2084) dL_law_1934 (by decide) ?_
  refine aw_iinc (q := 2087) (v := (i + (6 : Int32))) (lv' := [(4, .int (i + (6 : Int32))), (6, .ref (g1929 0)), (5, .int z1917.1), (0, .ref b), (1, .ref (r 0)), (2, .ref (rq 0)), (3, .ref o)]) dL_law_2084 rfl 6 rfl rfl (by decide) rfl ?_
  refine aw_goto (tgt := 27) dL_law_2087 (by decide) ?_
  refine aw_locals (lv' := [(0, .ref b), (1, .ref (r 0)), (2, .ref (rq 0)), (3, .ref o), (4, .int (i + (6 : Int32)))]) [3, 4, 5, 6, 0] rfl ?_
  refine aw_room (kc' := kc) (ks' := ks) (by omega) (by omega) ?_
  exact hk _ _ _ _ _
def flc_36 (N K L : Nat) (xs : Nat → Int32) (k : Int32 → CS → MS → Int64 → Option Int32) (i : Int32) (S : CS) (M : MS) (nv : Int64) : Option Int32 :=
  (if (i + (1 : Int32)) < 0 ∨ L ≤ (i + (1 : Int32)).toNatClampNeg then none else (if (i + (2 : Int32)) < 0 ∨ L ≤ (i + (2 : Int32)).toNatClampNeg then none else (if (i + (3 : Int32)) < 0 ∨ L ≤ (i + (3 : Int32)).toNatClampNeg then none else ((gL_isOf N K S (xs (i + (1 : Int32)).toNatClampNeg) (xs (i + (2 : Int32)).toNatClampNeg) (xs (i + (3 : Int32)).toNatClampNeg) nv).bind (fun z1957 => (if (i + (1 : Int32)) < 0 ∨ L ≤ (i + (1 : Int32)).toNatClampNeg then none else (if (i + (2 : Int32)) < 0 ∨ L ≤ (i + (2 : Int32)).toNatClampNeg then none else (if (i + (3 : Int32)) < 0 ∨ L ≤ (i + (3 : Int32)).toNatClampNeg then none else ((gM_isOf N K M (xs (i + (1 : Int32)).toNatClampNeg) (xs (i + (2 : Int32)).toNatClampNeg) (xs (i + (3 : Int32)).toNatClampNeg)).bind (fun z1981 => k (i + (6 : Int32)) z1957.2.1 z1981.2 z1957.2.2))))))))))
set_option maxHeartbeats 4000000 in
set_option maxRecDepth 100000 in
theorem tlc_36 {nm : String} {hh : List (Nat × Nat × Nat × Nat)} {N K b L kc ks : Nat} {xs : Nat → Int32} {r rq : Nat → Nat} {o : Nat} {k : Int32 → CS → MS → Int64 → Option Int32} (hk : ∀ (i : Int32) (S : CS) (M : MS) (nv : Int64) (sv : Value), AW RL nm cL_law 7 (some .boolean) hh (XS b L xs) (2 * K + 20) (PZ) kc ks (k i S M nv) 27 [(0, .ref b), (1, .ref (r 0)), (2, .ref (rq 0)), (3, .ref o), (4, .int i)] [] (WA r rq o S M nv sv)) (i : Int32) (S : CS) (M : MS) (nv : Int64) (sv : Value) : AW RL nm cL_law 7 (some .boolean) hh (XS b L xs) (2 * K + 20) (PZ) (kc + 300) (ks + 17000) (flc_36 N K L xs k i S M nv) 1937 [(0, .ref b), (1, .ref (r 0)), (2, .ref (rq 0)), (3, .ref o), (4, .int i)] [] (WA r rq o S M nv sv) := by
  unfold flc_36
  refine aw_aload_n (q := 1938) dL_law_1937 rfl 1 rfl ?_
  refine aw_aload_n (q := 1939) dL_law_1938 rfl 0 rfl ?_
  refine aw_iload (q := 1941) dL_law_1939 rfl 4 rfl ?_
  refine aw_iconst (q := 1942) (v := 1) dL_law_1941 rfl (by decide) ?_
  refine aw_iadd (q := 1943) dL_law_1942 rfl ?_
  refine aw_sld (q := 1944) dL_law_1943 rfl ?_
  refine aw_aload_n (q := 1945) dL_law_1944 rfl 0 rfl ?_
  refine aw_iload (q := 1947) dL_law_1945 rfl 4 rfl ?_
  refine aw_iconst (q := 1948) (v := 2) dL_law_1947 rfl (by decide) ?_
  refine aw_iadd (q := 1949) dL_law_1948 rfl ?_
  refine aw_sld (q := 1950) dL_law_1949 rfl ?_
  refine aw_aload_n (q := 1951) dL_law_1950 rfl 0 rfl ?_
  refine aw_iload (q := 1953) dL_law_1951 rfl 4 rfl ?_
  refine aw_iconst (q := 1954) (v := 3) dL_law_1953 rfl (by decide) ?_
  refine aw_iadd (q := 1955) dL_law_1954 rfl ?_
  refine aw_sld (q := 1956) dL_law_1955 rfl ?_
  refine aw_aload_n (q := 1957) dL_law_1956 rfl 3 rfl ?_
  refine aw_call (q := 1960) (kc1 := kc + 297) (ks1 := ks + 16982) (wc := WX r S ++ [OC o nv sv]) (wr := WM rq M) (st1 := fun z1957 g1957 => [.int z1957.1]) (ws1 := fun z1957 g1957 => WM rq M ++ (WX r z1957.2.1 ++ [OC o z1957.2.2 sv])) (As := [.ref (r 0), .int (xs (i + (1 : Int32)).toNatClampNeg), .int (xs (i + (2 : Int32)).toNatClampNeg), .int (xs (i + (3 : Int32)).toNatClampNeg), .ref o]) [0, 1, 2, 3, 4, 5, 6, 7, 8, 9, 10, 11, 12, 13, 14, 15, 16, 17, 18, 19, 20, 21, 22, 23, 24, 25, 26, 41] [27, 28, 29, 30, 31, 32, 33, 34, 35, 36, 37, 38, 39, 40] (fun _ => runSX dL_law_1957 mix_L_isOf st_L_isOf ml_L_274 (by omega) rfl (Nat.le_of_ble_eq_true rfl) rfl) (fun x9 h9 => ogL_isOf h9) rfl rfl rfl rfl rfl (by decide +kernel) (by omega) (by omega) (fun _ _ => rfl) (fun _ _ => rfl) (fun z1957 g1957 => ?_)
  refine aw_world (ws' := (WA r rq o z1957.2.1 M z1957.2.2 sv)) [14, 15, 16, 17, 18, 19, 20, 21, 22, 23, 24, 25, 26, 27, 28, 29, 30, 31, 32, 33, 34, 35, 36, 37, 38, 39, 40, 0, 1, 2, 3, 4, 5, 6, 7, 8, 9, 10, 11, 12, 13, 41] rfl rfl ?_
  refine aw_istore (q := 1962) (lv' := [(5, .int z1957.1), (0, .ref b), (1, .ref (r 0)), (2, .ref (rq 0)), (3, .ref o), (4, .int i)]) dL_law_1960 rfl (by decide) rfl ?_
  refine aw_aload_n (q := 1963) dL_law_1962 rfl 3 rfl ?_
  refine aw_aload_n (q := 1964) dL_law_1963 rfl 1 rfl ?_
  refine aw_iload (q := 1966) dL_law_1964 rfl 5 rfl ?_
  refine aw_iconst (q := 1967) (v := 1) dL_law_1966 rfl (by decide) ?_
  refine aw_iadd (q := 1968) dL_law_1967 rfl ?_
  refine aw_sld (q := 1969) dL_law_1968 rfl ?_
  refine aw_aload_n (q := 1970) dL_law_1969 rfl 1 rfl ?_
  refine aw_iload (q := 1972) dL_law_1970 rfl 5 rfl ?_
  refine aw_iconst (q := 1973) (v := 2) dL_law_1972 rfl (by decide) ?_
  refine aw_iadd (q := 1974) dL_law_1973 rfl ?_
  refine aw_sld (q := 1975) dL_law_1974 rfl ?_
  refine aw_aload_n (q := 1976) dL_law_1975 rfl 1 rfl ?_
  refine aw_iload (q := 1978) dL_law_1976 rfl 5 rfl ?_
  refine aw_iconst (q := 1979) (v := 3) dL_law_1978 rfl (by decide) ?_
  refine aw_iadd (q := 1980) dL_law_1979 rfl ?_
  refine aw_sld (q := 1981) dL_law_1980 rfl ?_
  refine aw_call (q := 1984) (kc1 := kc + 297) (ks1 := ks + 16982) (wc := WM rq M) (wr := WX r z1957.2.1 ++ [OC o z1957.2.2 sv]) (st1 := fun z1981 g1981 => [.int z1981.1]) (ws1 := fun z1981 g1981 => (WX r z1957.2.1 ++ [OC o z1957.2.2 sv]) ++ WM rq z1981.2) (As := [.ref (rq 0), .int (xs (i + (1 : Int32)).toNatClampNeg), .int (xs (i + (2 : Int32)).toNatClampNeg), .int (xs (i + (3 : Int32)).toNatClampNeg)]) [27, 28, 29, 30, 31, 32, 33, 34, 35, 36, 37, 38, 39, 40] [0, 1, 2, 3, 4, 5, 6, 7, 8, 9, 10, 11, 12, 13, 14, 15, 16, 17, 18, 19, 20, 21, 22, 23, 24, 25, 26, 41] (fun _ => runV (q0 := 27) dL_law_1981 mi_X7_isOf im_X7_isOf se_X7_isOf ml_L_276 (by omega) rfl (Nat.le_of_ble_eq_true rfl) rfl rfl rfl rfl) (fun x9 h9 => ogM_isOf h9) rfl rfl rfl rfl rfl (by decide +kernel) (by omega) (by omega) (fun _ _ => rfl) (fun _ _ => rfl) (fun z1981 g1981 => ?_)
  refine aw_world (ws' := (WA r rq o z1957.2.1 z1981.2 z1957.2.2 sv)) [0, 1, 2, 3, 4, 5, 6, 7, 8, 9, 10, 11, 12, 13, 14, 15, 16, 17, 18, 19, 20, 21, 22, 23, 24, 25, 26, 28, 29, 30, 31, 32, 33, 34, 35, 36, 37, 38, 39, 40, 41, 27] rfl rfl ?_
  refine aw_istore (q := 1986) (lv' := [(6, .int z1981.1), (5, .int z1957.1), (0, .ref b), (1, .ref (r 0)), (2, .ref (rq 0)), (3, .ref o), (4, .int i)]) dL_law_1984 rfl (by decide) rfl ?_
  refine aw_goto (tgt := 2084) dL_law_1986 (by decide) ?_
  refine aw_iinc (q := 2087) (v := (i + (6 : Int32))) (lv' := [(4, .int (i + (6 : Int32))), (6, .int z1981.1), (5, .int z1957.1), (0, .ref b), (1, .ref (r 0)), (2, .ref (rq 0)), (3, .ref o)]) dL_law_2084 rfl 6 rfl rfl (by decide) rfl ?_
  refine aw_goto (tgt := 27) dL_law_2087 (by decide) ?_
  refine aw_locals (lv' := [(0, .ref b), (1, .ref (r 0)), (2, .ref (rq 0)), (3, .ref o), (4, .int (i + (6 : Int32)))]) [3, 4, 5, 6, 0] rfl ?_
  refine aw_room (kc' := kc) (ks' := ks) (by omega) (by omega) ?_
  exact hk _ _ _ _ _
def flc_37 (N K L : Nat) (xs : Nat → Int32) (k : Int32 → CS → MS → Int64 → Option Int32) (i : Int32) (S : CS) (M : MS) (nv : Int64) : Option Int32 :=
  ((gX_isSameWay N K S ).bind (fun z1990 => ((gM_isSameWay N K M ).bind (fun z1995 => k (i + (6 : Int32)) z1990.2 z1995.2 nv))))
set_option maxHeartbeats 4000000 in
set_option maxRecDepth 100000 in
theorem tlc_37 {nm : String} {hh : List (Nat × Nat × Nat × Nat)} {N K b L kc ks : Nat} {xs : Nat → Int32} {r rq : Nat → Nat} {o : Nat} {k : Int32 → CS → MS → Int64 → Option Int32} (hk : ∀ (i : Int32) (S : CS) (M : MS) (nv : Int64) (sv : Value), AW RL nm cL_law 7 (some .boolean) hh (XS b L xs) (2 * K + 20) (PZ) kc ks (k i S M nv) 27 [(0, .ref b), (1, .ref (r 0)), (2, .ref (rq 0)), (3, .ref o), (4, .int i)] [] (WA r rq o S M nv sv)) (i : Int32) (S : CS) (M : MS) (nv : Int64) (sv : Value) : AW RL nm cL_law 7 (some .boolean) hh (XS b L xs) (2 * K + 20) (PZ) (kc + 300) (ks + 17000) (flc_37 N K L xs k i S M nv) 1989 [(0, .ref b), (1, .ref (r 0)), (2, .ref (rq 0)), (3, .ref o), (4, .int i)] [] (WA r rq o S M nv sv) := by
  unfold flc_37
  refine aw_aload_n (q := 1990) dL_law_1989 rfl 1 rfl ?_
  refine aw_call (q := 1993) (kc1 := kc + 298) (ks1 := ks + 16988) (wc := WX r S) (wr := WM rq M ++ [OC o nv sv]) (st1 := fun z1990 g1990 => [.int z1990.1]) (ws1 := fun z1990 g1990 => (WM rq M ++ [OC o nv sv]) ++ WX r z1990.2) (As := [.ref (r 0)]) [0, 1, 2, 3, 4, 5, 6, 7, 8, 9, 10, 11, 12, 13, 14, 15, 16, 17, 18, 19, 20, 21, 22, 23, 24, 25, 26] [27, 28, 29, 30, 31, 32, 33, 34, 35, 36, 37, 38, 39, 40, 41] (fun _ => runV (q0 := 0) dL_law_1990 mi_X5_isSameWay im_X5_isSameWay se_X5_isSameWay ml_L_277 (by omega) rfl (Nat.le_of_ble_eq_true rfl) rfl rfl rfl rfl) (fun x9 h9 => ogX_isSameWay h9) rfl rfl rfl rfl rfl (by decide +kernel) (by omega) (by omega) (fun _ _ => rfl) (fun _ _ => rfl) (fun z1990 g1990 => ?_)
  refine aw_world (ws' := (WA r rq o z1990.2 M nv sv)) [15, 16, 17, 18, 19, 20, 21, 22, 23, 24, 25, 26, 27, 28, 29, 30, 31, 32, 33, 34, 35, 36, 37, 38, 39, 40, 41, 0, 1, 2, 3, 4, 5, 6, 7, 8, 9, 10, 11, 12, 13, 14] rfl rfl ?_
  refine aw_pop (q := 1994) dL_law_1993 rfl rfl ?_
  refine aw_aload_n (q := 1995) dL_law_1994 rfl 2 rfl ?_
  refine aw_call (q := 1998) (kc1 := kc + 298) (ks1 := ks + 16988) (wc := WM rq M) (wr := WX r z1990.2 ++ [OC o nv sv]) (st1 := fun z1995 g1995 => [.int z1995.1]) (ws1 := fun z1995 g1995 => (WX r z1990.2 ++ [OC o nv sv]) ++ WM rq z1995.2) (As := [.ref (rq 0)]) [27, 28, 29, 30, 31, 32, 33, 34, 35, 36, 37, 38, 39, 40] [0, 1, 2, 3, 4, 5, 6, 7, 8, 9, 10, 11, 12, 13, 14, 15, 16, 17, 18, 19, 20, 21, 22, 23, 24, 25, 26, 41] (fun _ => runV (q0 := 27) dL_law_1995 mi_X7_isSameWay im_X7_isSameWay se_X7_isSameWay ml_L_281 (by omega) rfl (Nat.le_of_ble_eq_true rfl) rfl rfl rfl rfl) (fun x9 h9 => ogM_isSameWay h9) rfl rfl rfl rfl rfl (by decide +kernel) (by omega) (by omega) (fun _ _ => rfl) (fun _ _ => rfl) (fun z1995 g1995 => ?_)
  refine aw_world (ws' := (WA r rq o z1990.2 z1995.2 nv sv)) [0, 1, 2, 3, 4, 5, 6, 7, 8, 9, 10, 11, 12, 13, 14, 15, 16, 17, 18, 19, 20, 21, 22, 23, 24, 25, 26, 28, 29, 30, 31, 32, 33, 34, 35, 36, 37, 38, 39, 40, 41, 27] rfl rfl ?_
  refine aw_pop (q := 1999) dL_law_1998 rfl rfl ?_
  refine aw_goto (tgt := 2084) dL_law_1999 (by decide) ?_
  refine aw_iinc (q := 2087) (v := (i + (6 : Int32))) (lv' := [(4, .int (i + (6 : Int32))), (0, .ref b), (1, .ref (r 0)), (2, .ref (rq 0)), (3, .ref o)]) dL_law_2084 rfl 4 rfl rfl (by decide) rfl ?_
  refine aw_goto (tgt := 27) dL_law_2087 (by decide) ?_
  refine aw_locals (lv' := [(0, .ref b), (1, .ref (r 0)), (2, .ref (rq 0)), (3, .ref o), (4, .int (i + (6 : Int32)))]) [1, 2, 3, 4, 0] rfl ?_
  refine aw_room (kc' := kc) (ks' := ks) (by omega) (by omega) ?_
  exact hk _ _ _ _ _
def flc_38 (N K L : Nat) (xs : Nat → Int32) (k : Int32 → CS → MS → Int64 → Option Int32) (i : Int32) (S : CS) (M : MS) (nv : Int64) : Option Int32 :=
  (if (i + (1 : Int32)) < 0 ∨ L ≤ (i + (1 : Int32)).toNatClampNeg then none else ((gL_tally N K S (xs (i + (1 : Int32)).toNatClampNeg) nv).bind (fun z2010 => (if (i + (1 : Int32)) < 0 ∨ L ≤ (i + (1 : Int32)).toNatClampNeg then none else ((gM_tally N K M (xs (i + (1 : Int32)).toNatClampNeg)).bind (fun z2022 => k (i + (6 : Int32)) z2010.2.1 z2022.2 z2010.2.2))))))
set_option maxHeartbeats 4000000 in
set_option maxRecDepth 100000 in
theorem tlc_38 {nm : String} {hh : List (Nat × Nat × Nat × Nat)} {N K b L kc ks : Nat} {xs : Nat → Int32} {r rq : Nat → Nat} {o : Nat} {k : Int32 → CS → MS → Int64 → Option Int32} (hk : ∀ (i : Int32) (S : CS) (M : MS) (nv : Int64) (sv : Value), AW RL nm cL_law 7 (some .boolean) hh (XS b L xs) (2 * K + 20) (PZ) kc ks (k i S M nv) 27 [(0, .ref b), (1, .ref (r 0)), (2, .ref (rq 0)), (3, .ref o), (4, .int i)] [] (WA r rq o S M nv sv)) (i : Int32) (S : CS) (M : MS) (nv : Int64) (sv : Value) : AW RL nm cL_law 7 (some .boolean) hh (XS b L xs) (2 * K + 20) (PZ) (kc + 300) (ks + 17000) (flc_38 N K L xs k i S M nv) 2002 [(0, .ref b), (1, .ref (r 0)), (2, .ref (rq 0)), (3, .ref o), (4, .int i)] [] (WA r rq o S M nv sv) := by
  unfold flc_38
  refine aw_aload_n (q := 2003) dL_law_2002 rfl 1 rfl ?_
  refine aw_aload_n (q := 2004) dL_law_2003 rfl 0 rfl ?_
  refine aw_iload (q := 2006) dL_law_2004 rfl 4 rfl ?_
  refine aw_iconst (q := 2007) (v := 1) dL_law_2006 rfl (by decide) ?_
  refine aw_iadd (q := 2008) dL_law_2007 rfl ?_
  refine aw_sld (q := 2009) dL_law_2008 rfl ?_
  refine aw_aload_n (q := 2010) dL_law_2009 rfl 3 rfl ?_
  refine aw_call (q := 2013) (kc1 := kc + 299) (ks1 := ks + 16994) (wc := WX r S ++ [OC o nv sv]) (wr := WM rq M) (st1 := fun z2010 g2010 => [.int z2010.1]) (ws1 := fun z2010 g2010 => WM rq M ++ (WX r z2010.2.1 ++ [OC o z2010.2.2 sv])) (As := [.ref (r 0), .int (xs (i + (1 : Int32)).toNatClampNeg), .ref o]) [0, 1, 2, 3, 4, 5, 6, 7, 8, 9, 10, 11, 12, 13, 14, 15, 16, 17, 18, 19, 20, 21, 22, 23, 24, 25, 26, 41] [27, 28, 29, 30, 31, 32, 33, 34, 35, 36, 37, 38, 39, 40] (fun _ => runSX dL_law_2010 mix_L_tally st_L_tally ml_L_282 (by omega) rfl (Nat.le_of_ble_eq_true rfl) rfl) (fun x9 h9 => ogL_tally h9) rfl rfl rfl rfl rfl (by decide +kernel) (by omega) (by omega) (fun _ _ => rfl) (fun _ _ => rfl) (fun z2010 g2010 => ?_)
  refine aw_world (ws' := (WA r rq o z2010.2.1 M z2010.2.2 sv)) [14, 15, 16, 17, 18, 19, 20, 21, 22, 23, 24, 25, 26, 27, 28, 29, 30, 31, 32, 33, 34, 35, 36, 37, 38, 39, 40, 0, 1, 2, 3, 4, 5, 6, 7, 8, 9, 10, 11, 12, 13, 41] rfl rfl ?_
  refine aw_istore (q := 2015) (lv' := [(5, .int z2010.1), (0, .ref b), (1, .ref (r 0)), (2, .ref (rq 0)), (3, .ref o), (4, .int i)]) dL_law_2013 rfl (by decide) rfl ?_
  refine aw_aload_n (q := 2016) dL_law_2015 rfl 3 rfl ?_
  refine aw_aload_n (q := 2017) dL_law_2016 rfl 1 rfl ?_
  refine aw_iload (q := 2019) dL_law_2017 rfl 5 rfl ?_
  refine aw_iconst (q := 2020) (v := 1) dL_law_2019 rfl (by decide) ?_
  refine aw_iadd (q := 2021) dL_law_2020 rfl ?_
  refine aw_sld (q := 2022) dL_law_2021 rfl ?_
  refine aw_call (q := 2025) (kc1 := kc + 299) (ks1 := ks + 16994) (wc := WM rq M) (wr := WX r z2010.2.1 ++ [OC o z2010.2.2 sv]) (st1 := fun z2022 g2022 => [.int z2022.1]) (ws1 := fun z2022 g2022 => (WX r z2010.2.1 ++ [OC o z2010.2.2 sv]) ++ WM rq z2022.2) (As := [.ref (rq 0), .int (xs (i + (1 : Int32)).toNatClampNeg)]) [27, 28, 29, 30, 31, 32, 33, 34, 35, 36, 37, 38, 39, 40] [0, 1, 2, 3, 4, 5, 6, 7, 8, 9, 10, 11, 12, 13, 14, 15, 16, 17, 18, 19, 20, 21, 22, 23, 24, 25, 26, 41] (fun _ => runV (q0 := 27) dL_law_2022 mi_X7_tally im_X7_tally se_X7_tally ml_L_284 (by omega) rfl (Nat.le_of_ble_eq_true rfl) rfl rfl rfl rfl) (fun x9 h9 => ogM_tally h9) rfl rfl rfl rfl rfl (by decide +kernel) (by omega) (by omega) (fun _ _ => rfl) (fun _ _ => rfl) (fun z2022 g2022 => ?_)
  refine aw_world (ws' := (WA r rq o z2010.2.1 z2022.2 z2010.2.2 sv)) [0, 1, 2, 3, 4, 5, 6, 7, 8, 9, 10, 11, 12, 13, 14, 15, 16, 17, 18, 19, 20, 21, 22, 23, 24, 25, 26, 28, 29, 30, 31, 32, 33, 34, 35, 36, 37, 38, 39, 40, 41, 27] rfl rfl ?_
  refine aw_istore (q := 2027) (lv' := [(6, .int z2022.1), (5, .int z2010.1), (0, .ref b), (1, .ref (r 0)), (2, .ref (rq 0)), (3, .ref o), (4, .int i)]) dL_law_2025 rfl (by decide) rfl ?_
  refine aw_goto (tgt := 2084) dL_law_2027 (by decide) ?_
  refine aw_iinc (q := 2087) (v := (i + (6 : Int32))) (lv' := [(4, .int (i + (6 : Int32))), (6, .int z2022.1), (5, .int z2010.1), (0, .ref b), (1, .ref (r 0)), (2, .ref (rq 0)), (3, .ref o)]) dL_law_2084 rfl 6 rfl rfl (by decide) rfl ?_
  refine aw_goto (tgt := 27) dL_law_2087 (by decide) ?_
  refine aw_locals (lv' := [(0, .ref b), (1, .ref (r 0)), (2, .ref (rq 0)), (3, .ref o), (4, .int (i + (6 : Int32)))]) [3, 4, 5, 6, 0] rfl ?_
  refine aw_room (kc' := kc) (ks' := ks) (by omega) (by omega) ?_
  exact hk _ _ _ _ _
def flc_39 (N K L : Nat) (xs : Nat → Int32) (k : Int32 → CS → MS → Int64 → Option Int32) (i : Int32) (S : CS) (M : MS) (nv : Int64) : Option Int32 :=
  ((gX_knock N K S ).bind (fun z2031 => ((gM_knock N K M ).bind (fun z2036 => k (i + (6 : Int32)) z2031.2 z2036.2 nv))))
set_option maxHeartbeats 4000000 in
set_option maxRecDepth 100000 in
theorem tlc_39 {nm : String} {hh : List (Nat × Nat × Nat × Nat)} {N K b L kc ks : Nat} {xs : Nat → Int32} {r rq : Nat → Nat} {o : Nat} {k : Int32 → CS → MS → Int64 → Option Int32} (hk : ∀ (i : Int32) (S : CS) (M : MS) (nv : Int64) (sv : Value), AW RL nm cL_law 7 (some .boolean) hh (XS b L xs) (2 * K + 20) (PZ) kc ks (k i S M nv) 27 [(0, .ref b), (1, .ref (r 0)), (2, .ref (rq 0)), (3, .ref o), (4, .int i)] [] (WA r rq o S M nv sv)) (i : Int32) (S : CS) (M : MS) (nv : Int64) (sv : Value) : AW RL nm cL_law 7 (some .boolean) hh (XS b L xs) (2 * K + 20) (PZ) (kc + 300) (ks + 17000) (flc_39 N K L xs k i S M nv) 2030 [(0, .ref b), (1, .ref (r 0)), (2, .ref (rq 0)), (3, .ref o), (4, .int i)] [] (WA r rq o S M nv sv) := by
  unfold flc_39
  refine aw_aload_n (q := 2031) dL_law_2030 rfl 1 rfl ?_
  refine aw_call (q := 2034) (kc1 := kc + 300) (ks1 := ks + 17000) (wc := WX r S) (wr := WM rq M ++ [OC o nv sv]) (st1 := fun z2031 g2031 => [.int z2031.1]) (ws1 := fun z2031 g2031 => (WM rq M ++ [OC o nv sv]) ++ WX r z2031.2) (As := [.ref (r 0)]) [0, 1, 2, 3, 4, 5, 6, 7, 8, 9, 10, 11, 12, 13, 14, 15, 16, 17, 18, 19, 20, 21, 22, 23, 24, 25, 26] [27, 28, 29, 30, 31, 32, 33, 34, 35, 36, 37, 38, 39, 40, 41] (fun _ => runV (q0 := 0) dL_law_2031 mi_X5_knock im_X5_knock se_X5_knock ml_L_285 (by omega) rfl (Nat.le_of_ble_eq_true rfl) rfl rfl rfl rfl) (fun x9 h9 => ogX_knock h9) rfl rfl rfl rfl rfl (by decide +kernel) (by omega) (by omega) (fun _ _ => rfl) (fun _ _ => rfl) (fun z2031 g2031 => ?_)
  refine aw_world (ws' := (WA r rq o z2031.2 M nv sv)) [15, 16, 17, 18, 19, 20, 21, 22, 23, 24, 25, 26, 27, 28, 29, 30, 31, 32, 33, 34, 35, 36, 37, 38, 39, 40, 41, 0, 1, 2, 3, 4, 5, 6, 7, 8, 9, 10, 11, 12, 13, 14] rfl rfl ?_
  refine aw_pop (q := 2035) dL_law_2034 rfl rfl ?_
  refine aw_aload_n (q := 2036) dL_law_2035 rfl 2 rfl ?_
  refine aw_call (q := 2039) (kc1 := kc + 300) (ks1 := ks + 17000) (wc := WM rq M) (wr := WX r z2031.2 ++ [OC o nv sv]) (st1 := fun z2036 g2036 => [.int z2036.1]) (ws1 := fun z2036 g2036 => (WX r z2031.2 ++ [OC o nv sv]) ++ WM rq z2036.2) (As := [.ref (rq 0)]) [27, 28, 29, 30, 31, 32, 33, 34, 35, 36, 37, 38, 39, 40] [0, 1, 2, 3, 4, 5, 6, 7, 8, 9, 10, 11, 12, 13, 14, 15, 16, 17, 18, 19, 20, 21, 22, 23, 24, 25, 26, 41] (fun _ => runV (q0 := 27) dL_law_2036 mi_X7_knock im_X7_knock se_X7_knock ml_L_288 (by omega) rfl (Nat.le_of_ble_eq_true rfl) rfl rfl rfl rfl) (fun x9 h9 => ogM_knock h9) rfl rfl rfl rfl rfl (by decide +kernel) (by omega) (by omega) (fun _ _ => rfl) (fun _ _ => rfl) (fun z2036 g2036 => ?_)
  refine aw_world (ws' := (WA r rq o z2031.2 z2036.2 nv sv)) [0, 1, 2, 3, 4, 5, 6, 7, 8, 9, 10, 11, 12, 13, 14, 15, 16, 17, 18, 19, 20, 21, 22, 23, 24, 25, 26, 28, 29, 30, 31, 32, 33, 34, 35, 36, 37, 38, 39, 40, 41, 27] rfl rfl ?_
  refine aw_pop (q := 2040) dL_law_2039 rfl rfl ?_
  refine aw_goto (tgt := 2084) dL_law_2040 (by decide) ?_
  refine aw_iinc (q := 2087) (v := (i + (6 : Int32))) (lv' := [(4, .int (i + (6 : Int32))), (0, .ref b), (1, .ref (r 0)), (2, .ref (rq 0)), (3, .ref o)]) dL_law_2084 rfl 4 rfl rfl (by decide) rfl ?_
  refine aw_goto (tgt := 27) dL_law_2087 (by decide) ?_
  refine aw_locals (lv' := [(0, .ref b), (1, .ref (r 0)), (2, .ref (rq 0)), (3, .ref o), (4, .int (i + (6 : Int32)))]) [1, 2, 3, 4, 0] rfl ?_
  refine aw_room (kc' := kc) (ks' := ks) (by omega) (by omega) ?_
  exact hk _ _ _ _ _
def flc_40 (N K L : Nat) (xs : Nat → Int32) (k : Int32 → CS → MS → Int64 → Option Int32) (i : Int32) (S : CS) (M : MS) (nv : Int64) : Option Int32 :=
  (if (i + (1 : Int32)) < 0 ∨ L ≤ (i + (1 : Int32)).toNatClampNeg then none else ((gL_isSound N K S (xs (i + (1 : Int32)).toNatClampNeg) nv).bind (fun z2051 => (if (i + (1 : Int32)) < 0 ∨ L ≤ (i + (1 : Int32)).toNatClampNeg then none else ((gM_isSound N K M (xs (i + (1 : Int32)).toNatClampNeg)).bind (fun z2063 => k (i + (6 : Int32)) z2051.2.1 z2063.2 z2051.2.2))))))
set_option maxHeartbeats 4000000 in
set_option maxRecDepth 100000 in
theorem tlc_40 {nm : String} {hh : List (Nat × Nat × Nat × Nat)} {N K b L kc ks : Nat} {xs : Nat → Int32} {r rq : Nat → Nat} {o : Nat} {k : Int32 → CS → MS → Int64 → Option Int32} (hk : ∀ (i : Int32) (S : CS) (M : MS) (nv : Int64) (sv : Value), AW RL nm cL_law 7 (some .boolean) hh (XS b L xs) (2 * K + 20) (PZ) kc ks (k i S M nv) 27 [(0, .ref b), (1, .ref (r 0)), (2, .ref (rq 0)), (3, .ref o), (4, .int i)] [] (WA r rq o S M nv sv)) (i : Int32) (S : CS) (M : MS) (nv : Int64) (sv : Value) : AW RL nm cL_law 7 (some .boolean) hh (XS b L xs) (2 * K + 20) (PZ) (kc + 300) (ks + 17000) (flc_40 N K L xs k i S M nv) 2043 [(0, .ref b), (1, .ref (r 0)), (2, .ref (rq 0)), (3, .ref o), (4, .int i)] [] (WA r rq o S M nv sv) := by
  unfold flc_40
  refine aw_aload_n (q := 2044) dL_law_2043 rfl 1 rfl ?_
  refine aw_aload_n (q := 2045) dL_law_2044 rfl 0 rfl ?_
  refine aw_iload (q := 2047) dL_law_2045 rfl 4 rfl ?_
  refine aw_iconst (q := 2048) (v := 1) dL_law_2047 rfl (by decide) ?_
  refine aw_iadd (q := 2049) dL_law_2048 rfl ?_
  refine aw_sld (q := 2050) dL_law_2049 rfl ?_
  refine aw_aload_n (q := 2051) dL_law_2050 rfl 3 rfl ?_
  refine aw_call (q := 2054) (kc1 := kc + 299) (ks1 := ks + 16994) (wc := WX r S ++ [OC o nv sv]) (wr := WM rq M) (st1 := fun z2051 g2051 => [.int z2051.1]) (ws1 := fun z2051 g2051 => WM rq M ++ (WX r z2051.2.1 ++ [OC o z2051.2.2 sv])) (As := [.ref (r 0), .int (xs (i + (1 : Int32)).toNatClampNeg), .ref o]) [0, 1, 2, 3, 4, 5, 6, 7, 8, 9, 10, 11, 12, 13, 14, 15, 16, 17, 18, 19, 20, 21, 22, 23, 24, 25, 26, 41] [27, 28, 29, 30, 31, 32, 33, 34, 35, 36, 37, 38, 39, 40] (fun _ => runSX dL_law_2051 mix_L_isSound st_L_isSound ml_L_289 (by omega) rfl (Nat.le_of_ble_eq_true rfl) rfl) (fun x9 h9 => ogL_isSound h9) rfl rfl rfl rfl rfl (by decide +kernel) (by omega) (by omega) (fun _ _ => rfl) (fun _ _ => rfl) (fun z2051 g2051 => ?_)
  refine aw_world (ws' := (WA r rq o z2051.2.1 M z2051.2.2 sv)) [14, 15, 16, 17, 18, 19, 20, 21, 22, 23, 24, 25, 26, 27, 28, 29, 30, 31, 32, 33, 34, 35, 36, 37, 38, 39, 40, 0, 1, 2, 3, 4, 5, 6, 7, 8, 9, 10, 11, 12, 13, 41] rfl rfl ?_
  refine aw_istore (q := 2056) (lv' := [(5, .int z2051.1), (0, .ref b), (1, .ref (r 0)), (2, .ref (rq 0)), (3, .ref o), (4, .int i)]) dL_law_2054 rfl (by decide) rfl ?_
  refine aw_aload_n (q := 2057) dL_law_2056 rfl 3 rfl ?_
  refine aw_aload_n (q := 2058) dL_law_2057 rfl 1 rfl ?_
  refine aw_iload (q := 2060) dL_law_2058 rfl 5 rfl ?_
  refine aw_iconst (q := 2061) (v := 1) dL_law_2060 rfl (by decide) ?_
  refine aw_iadd (q := 2062) dL_law_2061 rfl ?_
  refine aw_sld (q := 2063) dL_law_2062 rfl ?_
  refine aw_call (q := 2066) (kc1 := kc + 99) (ks1 := ks + 12794) (wc := WM rq M) (wr := WX r z2051.2.1 ++ [OC o z2051.2.2 sv]) (st1 := fun z2063 g2063 => [.int z2063.1]) (ws1 := fun z2063 g2063 => (WX r z2051.2.1 ++ [OC o z2051.2.2 sv]) ++ WM rq z2063.2) (As := [.ref (rq 0), .int (xs (i + (1 : Int32)).toNatClampNeg)]) [27, 28, 29, 30, 31, 32, 33, 34, 35, 36, 37, 38, 39, 40] [0, 1, 2, 3, 4, 5, 6, 7, 8, 9, 10, 11, 12, 13, 14, 15, 16, 17, 18, 19, 20, 21, 22, 23, 24, 25, 26, 41] (fun _ => runV (q0 := 27) dL_law_2063 mi_X7_isSound im_X7_isSound se_X7_isSound ml_L_291 (by omega) rfl (Nat.le_of_ble_eq_true rfl) rfl rfl rfl rfl) (fun x9 h9 => ogM_isSound h9) rfl rfl rfl rfl rfl (by decide +kernel) (by omega) (by omega) (fun _ _ => rfl) (fun _ _ => rfl) (fun z2063 g2063 => ?_)
  refine aw_world (ws' := (WA r rq o z2051.2.1 z2063.2 z2051.2.2 sv)) [0, 1, 2, 3, 4, 5, 6, 7, 8, 9, 10, 11, 12, 13, 14, 15, 16, 17, 18, 19, 20, 21, 22, 23, 24, 25, 26, 28, 29, 30, 31, 32, 33, 34, 35, 36, 37, 38, 39, 40, 41, 27] rfl rfl ?_
  refine aw_istore (q := 2068) (lv' := [(6, .int z2063.1), (5, .int z2051.1), (0, .ref b), (1, .ref (r 0)), (2, .ref (rq 0)), (3, .ref o), (4, .int i)]) dL_law_2066 rfl (by decide) rfl ?_
  refine aw_goto (tgt := 2084) dL_law_2068 (by decide) ?_
  refine aw_iinc (q := 2087) (v := (i + (6 : Int32))) (lv' := [(4, .int (i + (6 : Int32))), (6, .int z2063.1), (5, .int z2051.1), (0, .ref b), (1, .ref (r 0)), (2, .ref (rq 0)), (3, .ref o)]) dL_law_2084 rfl 6 rfl rfl (by decide) rfl ?_
  refine aw_goto (tgt := 27) dL_law_2087 (by decide) ?_
  refine aw_locals (lv' := [(0, .ref b), (1, .ref (r 0)), (2, .ref (rq 0)), (3, .ref o), (4, .int (i + (6 : Int32)))]) [3, 4, 5, 6, 0] rfl ?_
  refine aw_room (kc' := kc) (ks' := ks) (by omega) (by omega) ?_
  exact hk _ _ _ _ _
def flc_41 (N K L : Nat) (xs : Nat → Int32) (k : Int32 → CS → MS → Int64 → Option Int32) (i : Int32) (S : CS) (M : MS) (nv : Int64) : Option Int32 :=
  ((gX_digest N K S ).bind (fun z2072 => ((gM_digest N K M ).bind (fun z2077 => k (i + (6 : Int32)) z2072.2 z2077.2 nv))))
set_option maxHeartbeats 4000000 in
set_option maxRecDepth 100000 in
theorem tlc_41 {nm : String} {hh : List (Nat × Nat × Nat × Nat)} {N K b L kc ks : Nat} {xs : Nat → Int32} {r rq : Nat → Nat} {o : Nat} {k : Int32 → CS → MS → Int64 → Option Int32} (hk : ∀ (i : Int32) (S : CS) (M : MS) (nv : Int64) (sv : Value), AW RL nm cL_law 7 (some .boolean) hh (XS b L xs) (2 * K + 20) (PZ) kc ks (k i S M nv) 27 [(0, .ref b), (1, .ref (r 0)), (2, .ref (rq 0)), (3, .ref o), (4, .int i)] [] (WA r rq o S M nv sv)) (i : Int32) (S : CS) (M : MS) (nv : Int64) (sv : Value) : AW RL nm cL_law 7 (some .boolean) hh (XS b L xs) (2 * K + 20) (PZ) (kc + 300) (ks + 17000) (flc_41 N K L xs k i S M nv) 2071 [(0, .ref b), (1, .ref (r 0)), (2, .ref (rq 0)), (3, .ref o), (4, .int i)] [] (WA r rq o S M nv sv) := by
  unfold flc_41
  refine aw_aload_n (q := 2072) dL_law_2071 rfl 1 rfl ?_
  refine aw_call (q := 2075) (kc1 := kc + 182) (ks1 := ks + 16292) (wc := WX r S) (wr := WM rq M ++ [OC o nv sv]) (st1 := fun z2072 g2072 => [.long z2072.1]) (ws1 := fun z2072 g2072 => (WM rq M ++ [OC o nv sv]) ++ WX r z2072.2) (As := [.ref (r 0)]) [0, 1, 2, 3, 4, 5, 6, 7, 8, 9, 10, 11, 12, 13, 14, 15, 16, 17, 18, 19, 20, 21, 22, 23, 24, 25, 26] [27, 28, 29, 30, 31, 32, 33, 34, 35, 36, 37, 38, 39, 40, 41] (fun _ => runV (q0 := 0) dL_law_2072 mi_X5_digest im_X5_digest se_X5_digest ml_L_292 (by omega) rfl (Nat.le_of_ble_eq_true rfl) rfl rfl rfl rfl) (fun x9 h9 => ogX_digest h9) rfl rfl rfl rfl rfl (by decide +kernel) (by omega) (by omega) (fun _ _ => rfl) (fun _ _ => rfl) (fun z2072 g2072 => ?_)
  refine aw_world (ws' := (WA r rq o z2072.2 M nv sv)) [15, 16, 17, 18, 19, 20, 21, 22, 23, 24, 25, 26, 27, 28, 29, 30, 31, 32, 33, 34, 35, 36, 37, 38, 39, 40, 41, 0, 1, 2, 3, 4, 5, 6, 7, 8, 9, 10, 11, 12, 13, 14] rfl rfl ?_
  refine aw_pop2L (q := 2076) dL_law_2075 rfl rfl ?_
  refine aw_aload_n (q := 2077) dL_law_2076 rfl 2 rfl ?_
  refine aw_call (q := 2080) (kc1 := kc + 182) (ks1 := ks + 16292) (wc := WM rq M) (wr := WX r z2072.2 ++ [OC o nv sv]) (st1 := fun z2077 g2077 => [.long z2077.1]) (ws1 := fun z2077 g2077 => (WX r z2072.2 ++ [OC o nv sv]) ++ WM rq z2077.2) (As := [.ref (rq 0)]) [27, 28, 29, 30, 31, 32, 33, 34, 35, 36, 37, 38, 39, 40] [0, 1, 2, 3, 4, 5, 6, 7, 8, 9, 10, 11, 12, 13, 14, 15, 16, 17, 18, 19, 20, 21, 22, 23, 24, 25, 26, 41] (fun _ => runV (q0 := 27) dL_law_2077 mi_X7_digest im_X7_digest se_X7_digest ml_L_296 (by omega) rfl (Nat.le_of_ble_eq_true rfl) rfl rfl rfl rfl) (fun x9 h9 => ogM_digest h9) rfl rfl rfl rfl rfl (by decide +kernel) (by omega) (by omega) (fun _ _ => rfl) (fun _ _ => rfl) (fun z2077 g2077 => ?_)
  refine aw_world (ws' := (WA r rq o z2072.2 z2077.2 nv sv)) [0, 1, 2, 3, 4, 5, 6, 7, 8, 9, 10, 11, 12, 13, 14, 15, 16, 17, 18, 19, 20, 21, 22, 23, 24, 25, 26, 28, 29, 30, 31, 32, 33, 34, 35, 36, 37, 38, 39, 40, 41, 27] rfl rfl ?_
  refine aw_pop2L (q := 2081) dL_law_2080 rfl rfl ?_
  refine aw_goto (tgt := 2084) dL_law_2081 (by decide) ?_
  refine aw_iinc (q := 2087) (v := (i + (6 : Int32))) (lv' := [(4, .int (i + (6 : Int32))), (0, .ref b), (1, .ref (r 0)), (2, .ref (rq 0)), (3, .ref o)]) dL_law_2084 rfl 4 rfl rfl (by decide) rfl ?_
  refine aw_goto (tgt := 27) dL_law_2087 (by decide) ?_
  refine aw_locals (lv' := [(0, .ref b), (1, .ref (r 0)), (2, .ref (rq 0)), (3, .ref o), (4, .int (i + (6 : Int32)))]) [1, 2, 3, 4, 0] rfl ?_
  refine aw_room (kc' := kc) (ks' := ks) (by omega) (by omega) ?_
  exact hk _ _ _ _ _

end MG_44case
section MG_45loop
def flaw (N K L : Nat) (xs : Nat → Int32) : Nat → Int32 → CS → MS → Int64 → Option Int32
  | 0, _, _, _, _ => none
  | fu + 1, i, S, M, nv =>
    (if (Int32.ofNat L - (6 : Int32)) < i then some 1 else (if i < 0 ∨ L ≤ i.toNatClampNeg then none else (if (xs i.toNatClampNeg &&& (63 : Int32)) = (0 : Int32) then flc_0 N K L xs (flaw N K L xs fu) i S M nv else (if (xs i.toNatClampNeg &&& (63 : Int32)) = (1 : Int32) then flc_1 N K L xs (flaw N K L xs fu) i S M nv else (if (xs i.toNatClampNeg &&& (63 : Int32)) = (2 : Int32) then flc_2 N K L xs (flaw N K L xs fu) i S M nv else (if (xs i.toNatClampNeg &&& (63 : Int32)) = (3 : Int32) then flc_3 N K L xs (flaw N K L xs fu) i S M nv else (if (xs i.toNatClampNeg &&& (63 : Int32)) = (4 : Int32) then flc_4 N K L xs (flaw N K L xs fu) i S M nv else (if (xs i.toNatClampNeg &&& (63 : Int32)) = (5 : Int32) then flc_5 N K L xs (flaw N K L xs fu) i S M nv else (if (xs i.toNatClampNeg &&& (63 : Int32)) = (6 : Int32) then flc_6 N K L xs (flaw N K L xs fu) i S M nv else (if (xs i.toNatClampNeg &&& (63 : Int32)) = (7 : Int32) then flc_7 N K L xs (flaw N K L xs fu) i S M nv else (if (xs i.toNatClampNeg &&& (63 : Int32)) = (8 : Int32) then flc_8 N K L xs (flaw N K L xs fu) i S M nv else (if (xs i.toNatClampNeg &&& (63 : Int32)) = (9 : Int32) then flc_9 N K L xs (flaw N K L xs fu) i S M nv else (if (xs i.toNatClampNeg &&& (63 : Int32)) = (10 : Int32) then flc_10 N K L xs (flaw N K L xs fu) i S M nv else (if (xs i.toNatClampNeg &&& (63 : Int32)) = (11 : Int32) then flc_11 N K L xs (flaw N K L xs fu) i S M nv else (if (xs i.toNatClampNeg &&& (63 : Int32)) = (12 : Int32) then flc_12 N K L xs (flaw N K L xs fu) i S M nv else (if (xs i.toNatClampNeg &&& (63 : Int32)) = (13 : Int32) then flc_13 N K L xs (flaw N K L xs fu) i S M nv else (if (xs i.toNatClampNeg &&& (63 : Int32)) = (14 : Int32) then flc_14 N K L xs (flaw N K L xs fu) i S M nv else (if (xs i.toNatClampNeg &&& (63 : Int32)) = (15 : Int32) then flc_15 N K L xs (flaw N K L xs fu) i S M nv else (if (xs i.toNatClampNeg &&& (63 : Int32)) = (16 : Int32) then flc_16 N K L xs (flaw N K L xs fu) i S M nv else (if (xs i.toNatClampNeg &&& (63 : Int32)) = (17 : Int32) then flc_17 N K L xs (flaw N K L xs fu) i S M nv else (if (xs i.toNatClampNeg &&& (63 : Int32)) = (18 : Int32) then flc_18 N K L xs (flaw N K L xs fu) i S M nv else (if (xs i.toNatClampNeg &&& (63 : Int32)) = (19 : Int32) then flc_19 N K L xs (flaw N K L xs fu) i S M nv else (if (xs i.toNatClampNeg &&& (63 : Int32)) = (20 : Int32) then flc_20 N K L xs (flaw N K L xs fu) i S M nv else (if (xs i.toNatClampNeg &&& (63 : Int32)) = (21 : Int32) then flc_21 N K L xs (flaw N K L xs fu) i S M nv else (if (xs i.toNatClampNeg &&& (63 : Int32)) = (22 : Int32) then flc_22 N K L xs (flaw N K L xs fu) i S M nv else (if (xs i.toNatClampNeg &&& (63 : Int32)) = (23 : Int32) then flc_23 N K L xs (flaw N K L xs fu) i S M nv else (if (xs i.toNatClampNeg &&& (63 : Int32)) = (24 : Int32) then flc_24 N K L xs (flaw N K L xs fu) i S M nv else (if (xs i.toNatClampNeg &&& (63 : Int32)) = (25 : Int32) then flc_25 N K L xs (flaw N K L xs fu) i S M nv else (if (xs i.toNatClampNeg &&& (63 : Int32)) = (26 : Int32) then flc_26 N K L xs (flaw N K L xs fu) i S M nv else (if (xs i.toNatClampNeg &&& (63 : Int32)) = (27 : Int32) then flc_27 N K L xs (flaw N K L xs fu) i S M nv else (if (xs i.toNatClampNeg &&& (63 : Int32)) = (28 : Int32) then flc_28 N K L xs (flaw N K L xs fu) i S M nv else (if (xs i.toNatClampNeg &&& (63 : Int32)) = (29 : Int32) then flc_29 N K L xs (flaw N K L xs fu) i S M nv else (if (xs i.toNatClampNeg &&& (63 : Int32)) = (30 : Int32) then flc_30 N K L xs (flaw N K L xs fu) i S M nv else (if (xs i.toNatClampNeg &&& (63 : Int32)) = (31 : Int32) then flc_31 N K L xs (flaw N K L xs fu) i S M nv else (if (xs i.toNatClampNeg &&& (63 : Int32)) = (32 : Int32) then flc_32 N K L xs (flaw N K L xs fu) i S M nv else (if (xs i.toNatClampNeg &&& (63 : Int32)) = (33 : Int32) then flc_33 N K L xs (flaw N K L xs fu) i S M nv else (if (xs i.toNatClampNeg &&& (63 : Int32)) = (34 : Int32) then flc_34 N K L xs (flaw N K L xs fu) i S M nv else (if (xs i.toNatClampNeg &&& (63 : Int32)) = (35 : Int32) then flc_35 N K L xs (flaw N K L xs fu) i S M nv else (if (xs i.toNatClampNeg &&& (63 : Int32)) = (36 : Int32) then flc_36 N K L xs (flaw N K L xs fu) i S M nv else (if (xs i.toNatClampNeg &&& (63 : Int32)) = (37 : Int32) then flc_37 N K L xs (flaw N K L xs fu) i S M nv else (if (xs i.toNatClampNeg &&& (63 : Int32)) = (38 : Int32) then flc_38 N K L xs (flaw N K L xs fu) i S M nv else (if (xs i.toNatClampNeg &&& (63 : Int32)) = (39 : Int32) then flc_39 N K L xs (flaw N K L xs fu) i S M nv else (if (xs i.toNatClampNeg &&& (63 : Int32)) = (40 : Int32) then flc_40 N K L xs (flaw N K L xs fu) i S M nv else (if (xs i.toNatClampNeg &&& (63 : Int32)) = (41 : Int32) then flc_41 N K L xs (flaw N K L xs fu) i S M nv else flaw N K L xs fu (i + (6 : Int32)) S M nv))))))))))))))))))))))))))))))))))))))))))))
set_option maxHeartbeats 4000000 in
set_option maxRecDepth 100000 in
theorem tlaw {nm : String} {hh : List (Nat × Nat × Nat × Nat)} {N K b L : Nat} {xs : Nat → Int32} {r rq : Nat → Nat} {o : Nat} : ∀ (fu : Nat) (i : Int32) (S : CS) (M : MS) (nv : Int64) (sv : Value), AW RL nm cL_law 7 (some .boolean) hh (XS b L xs) (2 * K + 20) (PZ) (fu * 300) (fu * 17000) (flaw N K L xs fu i S M nv) 27 [(0, .ref b), (1, .ref (r 0)), (2, .ref (rq 0)), (3, .ref o), (4, .int i)] [] (WA r rq o S M nv sv) := by
  intro fu
  induction fu with
  | zero => intro i S M nv sv; exact aw_none
  | succ fu ih =>
    intro i S M nv sv
    unfold flaw
    refine aw_iload (q := 29) dL_law_27 rfl 4 rfl ?_
    refine aw_aload_n (q := 30) dL_law_29 rfl 0 rfl ?_
    refine aw_slen (q := 31) dL_law_30 rfl ?_
    refine aw_bipush (q := 33) (v := 6) dL_law_31 rfl (by decide) ?_
    refine aw_isub (q := 34) dL_law_33 rfl ?_
    refine aw_icmp_gt (tgt := 2090) (q := 37) dL_law_34 (by decide) rfl (fun h9 => ?_) (fun h9 => ?_)
    · refine aw_iconst (q := 2091) (v := 1) dL_law_2090 rfl (by decide) ?_
      exact aw_ireturn (w := []) [] dL_law_2091 rfl rfl rfl rfl rfl
    refine aw_aload_n (q := 38) dL_law_37 rfl 0 rfl ?_
    refine aw_iload (q := 40) dL_law_38 rfl 4 rfl ?_
    refine aw_sld (q := 41) dL_law_40 rfl ?_
    refine aw_bipush (q := 43) (v := 63) dL_law_41 rfl (by decide) ?_
    refine aw_iand (q := 44) dL_law_43 rfl ?_
    refine aw_tsw (v := 0) (off := 184) (tgt := 228) dL_law_44 (by decide) (by decide) (by decide) (by decide) (fun hs_0 => ?_) (fun hs_0 => ?_)
    · refine aw_room (kc' := fu * 300 + 300) (ks' := fu * 17000 + 17000) (by omega) (by omega) ?_
      exact tlc_0 ih i S M nv sv
    refine aw_tsw (v := 1) (off := 248) (tgt := 292) dL_law_44 (by decide) (by decide) (by decide) (by decide) (fun hs_1 => ?_) (fun hs_1 => ?_)
    · refine aw_room (kc' := fu * 300 + 300) (ks' := fu * 17000 + 17000) (by omega) (by omega) ?_
      exact tlc_1 ih i S M nv sv
    refine aw_tsw (v := 2) (off := 300) (tgt := 344) dL_law_44 (by decide) (by decide) (by decide) (by decide) (fun hs_2 => ?_) (fun hs_2 => ?_)
    · refine aw_room (kc' := fu * 300 + 300) (ks' := fu * 17000 + 17000) (by omega) (by omega) ?_
      exact tlc_2 ih i S M nv sv
    refine aw_tsw (v := 3) (off := 340) (tgt := 384) dL_law_44 (by decide) (by decide) (by decide) (by decide) (fun hs_3 => ?_) (fun hs_3 => ?_)
    · refine aw_room (kc' := fu * 300 + 300) (ks' := fu * 17000 + 17000) (by omega) (by omega) ?_
      exact tlc_3 ih i S M nv sv
    refine aw_tsw (v := 4) (off := 380) (tgt := 424) dL_law_44 (by decide) (by decide) (by decide) (by decide) (fun hs_4 => ?_) (fun hs_4 => ?_)
    · refine aw_room (kc' := fu * 300 + 300) (ks' := fu * 17000 + 17000) (by omega) (by omega) ?_
      exact tlc_4 ih i S M nv sv
    refine aw_tsw (v := 5) (off := 444) (tgt := 488) dL_law_44 (by decide) (by decide) (by decide) (by decide) (fun hs_5 => ?_) (fun hs_5 => ?_)
    · refine aw_room (kc' := fu * 300 + 300) (ks' := fu * 17000 + 17000) (by omega) (by omega) ?_
      exact tlc_5 ih i S M nv sv
    refine aw_tsw (v := 6) (off := 508) (tgt := 552) dL_law_44 (by decide) (by decide) (by decide) (by decide) (fun hs_6 => ?_) (fun hs_6 => ?_)
    · refine aw_room (kc' := fu * 300 + 300) (ks' := fu * 17000 + 17000) (by omega) (by omega) ?_
      exact tlc_6 ih i S M nv sv
    refine aw_tsw (v := 7) (off := 572) (tgt := 616) dL_law_44 (by decide) (by decide) (by decide) (by decide) (fun hs_7 => ?_) (fun hs_7 => ?_)
    · refine aw_room (kc' := fu * 300 + 300) (ks' := fu * 17000 + 17000) (by omega) (by omega) ?_
      exact tlc_7 ih i S M nv sv
    refine aw_tsw (v := 8) (off := 648) (tgt := 692) dL_law_44 (by decide) (by decide) (by decide) (by decide) (fun hs_8 => ?_) (fun hs_8 => ?_)
    · refine aw_room (kc' := fu * 300 + 300) (ks' := fu * 17000 + 17000) (by omega) (by omega) ?_
      exact tlc_8 ih i S M nv sv
    refine aw_tsw (v := 9) (off := 700) (tgt := 744) dL_law_44 (by decide) (by decide) (by decide) (by decide) (fun hs_9 => ?_) (fun hs_9 => ?_)
    · refine aw_room (kc' := fu * 300 + 300) (ks' := fu * 17000 + 17000) (by omega) (by omega) ?_
      exact tlc_9 ih i S M nv sv
    refine aw_tsw (v := 10) (off := 728) (tgt := 772) dL_law_44 (by decide) (by decide) (by decide) (by decide) (fun hs_10 => ?_) (fun hs_10 => ?_)
    · refine aw_room (kc' := fu * 300 + 300) (ks' := fu * 17000 + 17000) (by omega) (by omega) ?_
      exact tlc_10 ih i S M nv sv
    refine aw_tsw (v := 11) (off := 768) (tgt := 812) dL_law_44 (by decide) (by decide) (by decide) (by decide) (fun hs_11 => ?_) (fun hs_11 => ?_)
    · refine aw_room (kc' := fu * 300 + 300) (ks' := fu * 17000 + 17000) (by omega) (by omega) ?_
      exact tlc_11 ih i S M nv sv
    refine aw_tsw (v := 12) (off := 808) (tgt := 852) dL_law_44 (by decide) (by decide) (by decide) (by decide) (fun hs_12 => ?_) (fun hs_12 => ?_)
    · refine aw_room (kc' := fu * 300 + 300) (ks' := fu * 17000 + 17000) (by omega) (by omega) ?_
      exact tlc_12 ih i S M nv sv
    refine aw_tsw (v := 13) (off := 884) (tgt := 928) dL_law_44 (by decide) (by decide) (by decide) (by decide) (fun hs_13 => ?_) (fun hs_13 => ?_)
    · refine aw_room (kc' := fu * 300 + 300) (ks' := fu * 17000 + 17000) (by omega) (by omega) ?_
      exact tlc_13 ih i S M nv sv
    refine aw_tsw (v := 14) (off := 960) (tgt := 1004) dL_law_44 (by decide) (by decide) (by decide) (by decide) (fun hs_14 => ?_) (fun hs_14 => ?_)
    · refine aw_room (kc' := fu * 300 + 300) (ks' := fu * 17000 + 17000) (by omega) (by omega) ?_
      exact tlc_14 ih i S M nv sv
    refine aw_tsw (v := 15) (off := 1036) (tgt := 1080) dL_law_44 (by decide) (by decide) (by decide) (by decide) (fun hs_15 => ?_) (fun hs_15 => ?_)
    · refine aw_room (kc' := fu * 300 + 300) (ks' := fu * 17000 + 17000) (by omega) (by omega) ?_
      exact tlc_15 ih i S M nv sv
    refine aw_tsw (v := 16) (off := 1076) (tgt := 1120) dL_law_44 (by decide) (by decide) (by decide) (by decide) (fun hs_16 => ?_) (fun hs_16 => ?_)
    · refine aw_room (kc' := fu * 300 + 300) (ks' := fu * 17000 + 17000) (by omega) (by omega) ?_
      exact tlc_16 ih i S M nv sv
    refine aw_tsw (v := 17) (off := 1116) (tgt := 1160) dL_law_44 (by decide) (by decide) (by decide) (by decide) (fun hs_17 => ?_) (fun hs_17 => ?_)
    · refine aw_room (kc' := fu * 300 + 300) (ks' := fu * 17000 + 17000) (by omega) (by omega) ?_
      exact tlc_17 ih i S M nv sv
    refine aw_tsw (v := 18) (off := 1168) (tgt := 1212) dL_law_44 (by decide) (by decide) (by decide) (by decide) (fun hs_18 => ?_) (fun hs_18 => ?_)
    · refine aw_room (kc' := fu * 300 + 300) (ks' := fu * 17000 + 17000) (by omega) (by omega) ?_
      exact tlc_18 ih i S M nv sv
    refine aw_tsw (v := 19) (off := 1208) (tgt := 1252) dL_law_44 (by decide) (by decide) (by decide) (by decide) (fun hs_19 => ?_) (fun hs_19 => ?_)
    · refine aw_room (kc' := fu * 300 + 300) (ks' := fu * 17000 + 17000) (by omega) (by omega) ?_
      exact tlc_19 ih i S M nv sv
    refine aw_tsw (v := 20) (off := 1260) (tgt := 1304) dL_law_44 (by decide) (by decide) (by decide) (by decide) (fun hs_20 => ?_) (fun hs_20 => ?_)
    · refine aw_room (kc' := fu * 300 + 300) (ks' := fu * 17000 + 17000) (by omega) (by omega) ?_
      exact tlc_20 ih i S M nv sv
    refine aw_tsw (v := 21) (off := 1312) (tgt := 1356) dL_law_44 (by decide) (by decide) (by decide) (by decide) (fun hs_21 => ?_) (fun hs_21 => ?_)
    · refine aw_room (kc' := fu * 300 + 300) (ks' := fu * 17000 + 17000) (by omega) (by omega) ?_
      exact tlc_21 ih i S M nv sv
    refine aw_tsw (v := 22) (off := 1352) (tgt := 1396) dL_law_44 (by decide) (by decide) (by decide) (by decide) (fun hs_22 => ?_) (fun hs_22 => ?_)
    · refine aw_room (kc' := fu * 300 + 300) (ks' := fu * 17000 + 17000) (by omega) (by omega) ?_
      exact tlc_22 ih i S M nv sv
    refine aw_tsw (v := 23) (off := 1392) (tgt := 1436) dL_law_44 (by decide) (by decide) (by decide) (by decide) (fun hs_23 => ?_) (fun hs_23 => ?_)
    · refine aw_room (kc' := fu * 300 + 300) (ks' := fu * 17000 + 17000) (by omega) (by omega) ?_
      exact tlc_23 ih i S M nv sv
    refine aw_tsw (v := 24) (off := 1432) (tgt := 1476) dL_law_44 (by decide) (by decide) (by decide) (by decide) (fun hs_24 => ?_) (fun hs_24 => ?_)
    · refine aw_room (kc' := fu * 300 + 300) (ks' := fu * 17000 + 17000) (by omega) (by omega) ?_
      exact tlc_24 ih i S M nv sv
    refine aw_tsw (v := 25) (off := 1513) (tgt := 1557) dL_law_44 (by decide) (by decide) (by decide) (by decide) (fun hs_25 => ?_) (fun hs_25 => ?_)
    · refine aw_room (kc' := fu * 300 + 300) (ks' := fu * 17000 + 17000) (by omega) (by omega) ?_
      exact tlc_25 ih i S M nv sv
    refine aw_tsw (v := 26) (off := 1565) (tgt := 1609) dL_law_44 (by decide) (by decide) (by decide) (by decide) (fun hs_26 => ?_) (fun hs_26 => ?_)
    · refine aw_room (kc' := fu * 300 + 300) (ks' := fu * 17000 + 17000) (by omega) (by omega) ?_
      exact tlc_26 ih i S M nv sv
    refine aw_tsw (v := 27) (off := 1605) (tgt := 1649) dL_law_44 (by decide) (by decide) (by decide) (by decide) (fun hs_27 => ?_) (fun hs_27 => ?_)
    · refine aw_room (kc' := fu * 300 + 300) (ks' := fu * 17000 + 17000) (by omega) (by omega) ?_
      exact tlc_27 ih i S M nv sv
    refine aw_tsw (v := 28) (off := 1645) (tgt := 1689) dL_law_44 (by decide) (by decide) (by decide) (by decide) (fun hs_28 => ?_) (fun hs_28 => ?_)
    · refine aw_room (kc' := fu * 300 + 300) (ks' := fu * 17000 + 17000) (by omega) (by omega) ?_
      exact tlc_28 ih i S M nv sv
    refine aw_tsw (v := 29) (off := 1673) (tgt := 1717) dL_law_44 (by decide) (by decide) (by decide) (by decide) (fun hs_29 => ?_) (fun hs_29 => ?_)
    · refine aw_room (kc' := fu * 300 + 300) (ks' := fu * 17000 + 17000) (by omega) (by omega) ?_
      exact tlc_29 ih i S M nv sv
    refine aw_tsw (v := 30) (off := 1701) (tgt := 1745) dL_law_44 (by decide) (by decide) (by decide) (by decide) (fun hs_30 => ?_) (fun hs_30 => ?_)
    · refine aw_room (kc' := fu * 300 + 300) (ks' := fu * 17000 + 17000) (by omega) (by omega) ?_
      exact tlc_30 ih i S M nv sv
    refine aw_tsw (v := 31) (off := 1729) (tgt := 1773) dL_law_44 (by decide) (by decide) (by decide) (by decide) (fun hs_31 => ?_) (fun hs_31 => ?_)
    · refine aw_room (kc' := fu * 300 + 300) (ks' := fu * 17000 + 17000) (by omega) (by omega) ?_
      exact tlc_31 ih i S M nv sv
    refine aw_tsw (v := 32) (off := 1757) (tgt := 1801) dL_law_44 (by decide) (by decide) (by decide) (by decide) (fun hs_32 => ?_) (fun hs_32 => ?_)
    · refine aw_room (kc' := fu * 300 + 300) (ks' := fu * 17000 + 17000) (by omega) (by omega) ?_
      exact tlc_32 ih i S M nv sv
    refine aw_tsw (v := 33) (off := 1785) (tgt := 1829) dL_law_44 (by decide) (by decide) (by decide) (by decide) (fun hs_33 => ?_) (fun hs_33 => ?_)
    · refine aw_room (kc' := fu * 300 + 300) (ks' := fu * 17000 + 17000) (by omega) (by omega) ?_
      exact tlc_33 ih i S M nv sv
    refine aw_tsw (v := 34) (off := 1825) (tgt := 1869) dL_law_44 (by decide) (by decide) (by decide) (by decide) (fun hs_34 => ?_) (fun hs_34 => ?_)
    · refine aw_room (kc' := fu * 300 + 300) (ks' := fu * 17000 + 17000) (by omega) (by omega) ?_
      exact tlc_34 ih i S M nv sv
    refine aw_tsw (v := 35) (off := 1865) (tgt := 1909) dL_law_44 (by decide) (by decide) (by decide) (by decide) (fun hs_35 => ?_) (fun hs_35 => ?_)
    · refine aw_room (kc' := fu * 300 + 300) (ks' := fu * 17000 + 17000) (by omega) (by omega) ?_
      exact tlc_35 ih i S M nv sv
    refine aw_tsw (v := 36) (off := 1893) (tgt := 1937) dL_law_44 (by decide) (by decide) (by decide) (by decide) (fun hs_36 => ?_) (fun hs_36 => ?_)
    · refine aw_room (kc' := fu * 300 + 300) (ks' := fu * 17000 + 17000) (by omega) (by omega) ?_
      exact tlc_36 ih i S M nv sv
    refine aw_tsw (v := 37) (off := 1945) (tgt := 1989) dL_law_44 (by decide) (by decide) (by decide) (by decide) (fun hs_37 => ?_) (fun hs_37 => ?_)
    · refine aw_room (kc' := fu * 300 + 300) (ks' := fu * 17000 + 17000) (by omega) (by omega) ?_
      exact tlc_37 ih i S M nv sv
    refine aw_tsw (v := 38) (off := 1958) (tgt := 2002) dL_law_44 (by decide) (by decide) (by decide) (by decide) (fun hs_38 => ?_) (fun hs_38 => ?_)
    · refine aw_room (kc' := fu * 300 + 300) (ks' := fu * 17000 + 17000) (by omega) (by omega) ?_
      exact tlc_38 ih i S M nv sv
    refine aw_tsw (v := 39) (off := 1986) (tgt := 2030) dL_law_44 (by decide) (by decide) (by decide) (by decide) (fun hs_39 => ?_) (fun hs_39 => ?_)
    · refine aw_room (kc' := fu * 300 + 300) (ks' := fu * 17000 + 17000) (by omega) (by omega) ?_
      exact tlc_39 ih i S M nv sv
    refine aw_tsw (v := 40) (off := 1999) (tgt := 2043) dL_law_44 (by decide) (by decide) (by decide) (by decide) (fun hs_40 => ?_) (fun hs_40 => ?_)
    · refine aw_room (kc' := fu * 300 + 300) (ks' := fu * 17000 + 17000) (by omega) (by omega) ?_
      exact tlc_40 ih i S M nv sv
    refine aw_tsw (v := 41) (off := 2027) (tgt := 2071) dL_law_44 (by decide) (by decide) (by decide) (by decide) (fun hs_41 => ?_) (fun hs_41 => ?_)
    · refine aw_room (kc' := fu * 300 + 300) (ks' := fu * 17000 + 17000) (by omega) (by omega) ?_
      exact tlc_41 ih i S M nv sv
    refine aw_tswD (tgt := 2084) dL_law_44 (by have e0 := lv_neT (a := 0) hs_0 (by decide); have e1 := lv_neT (a := 1) hs_1 (by decide); have e2 := lv_neT (a := 2) hs_2 (by decide); have e3 := lv_neT (a := 3) hs_3 (by decide); have e4 := lv_neT (a := 4) hs_4 (by decide); have e5 := lv_neT (a := 5) hs_5 (by decide); have e6 := lv_neT (a := 6) hs_6 (by decide); have e7 := lv_neT (a := 7) hs_7 (by decide); have e8 := lv_neT (a := 8) hs_8 (by decide); have e9 := lv_neT (a := 9) hs_9 (by decide); have e10 := lv_neT (a := 10) hs_10 (by decide); have e11 := lv_neT (a := 11) hs_11 (by decide); have e12 := lv_neT (a := 12) hs_12 (by decide); have e13 := lv_neT (a := 13) hs_13 (by decide); have e14 := lv_neT (a := 14) hs_14 (by decide); have e15 := lv_neT (a := 15) hs_15 (by decide); have e16 := lv_neT (a := 16) hs_16 (by decide); have e17 := lv_neT (a := 17) hs_17 (by decide); have e18 := lv_neT (a := 18) hs_18 (by decide); have e19 := lv_neT (a := 19) hs_19 (by decide); have e20 := lv_neT (a := 20) hs_20 (by decide); have e21 := lv_neT (a := 21) hs_21 (by decide); have e22 := lv_neT (a := 22) hs_22 (by decide); have e23 := lv_neT (a := 23) hs_23 (by decide); have e24 := lv_neT (a := 24) hs_24 (by decide); have e25 := lv_neT (a := 25) hs_25 (by decide); have e26 := lv_neT (a := 26) hs_26 (by decide); have e27 := lv_neT (a := 27) hs_27 (by decide); have e28 := lv_neT (a := 28) hs_28 (by decide); have e29 := lv_neT (a := 29) hs_29 (by decide); have e30 := lv_neT (a := 30) hs_30 (by decide); have e31 := lv_neT (a := 31) hs_31 (by decide); have e32 := lv_neT (a := 32) hs_32 (by decide); have e33 := lv_neT (a := 33) hs_33 (by decide); have e34 := lv_neT (a := 34) hs_34 (by decide); have e35 := lv_neT (a := 35) hs_35 (by decide); have e36 := lv_neT (a := 36) hs_36 (by decide); have e37 := lv_neT (a := 37) hs_37 (by decide); have e38 := lv_neT (a := 38) hs_38 (by decide); have e39 := lv_neT (a := 39) hs_39 (by decide); have e40 := lv_neT (a := 40) hs_40 (by decide); have e41 := lv_neT (a := 41) hs_41 (by decide); omega) (by decide) ?_
    refine aw_iinc (q := 2087) (v := (i + (6 : Int32))) (lv' := [(4, .int (i + (6 : Int32))), (0, .ref b), (1, .ref (r 0)), (2, .ref (rq 0)), (3, .ref o)]) dL_law_2084 rfl 4 rfl rfl (by decide) rfl ?_
    refine aw_goto (tgt := 27) dL_law_2087 (by decide) ?_
    refine aw_locals (lv' := [(0, .ref b), (1, .ref (r 0)), (2, .ref (rq 0)), (3, .ref o), (4, .int (i + (6 : Int32)))]) [1, 2, 3, 4, 0] rfl ?_
    refine aw_room (kc' := fu * 300) (ks' := fu * 17000) (by omega) (by omega) ?_
    exact ih _ _ _ _ _

end MG_45loop
section MG_46afacts
set_option maxHeartbeats 4000000 in
set_option maxRecDepth 100000 in
theorem z_start {s : State} {b : Nat} (hts : ∀ w ∈ lw_tbl, w.before #[Value.ref b] s = true) (hgv : (Jvm.Cond.and given_1 narrow_1).before #[Value.ref b] s = true) : ∃ (D : va_G) (TY : Nat → ClassId), va_K D vwCl (tysOf TY) s ∧ ∀ A : Nat → Prop, (∀ a : Nat, a < s.heap.size → ¬ A a) → ZF A s s.heap := by
  have hT : ∀ w ∈ TB, w.before #[Value.ref b] s = true := fun w h => hts w (List.mem_filter.mp h).1
  have hfl := flat_of_before _ hgv
  have hkn : ∀ (k : Nat) (q : vw_C), vwCl[k]? = some q → ∃ (cC : ClassId) (iS : Nat → Nat), u_Kn s q.1 q.2.1 q.2.2 cC iS := by
    intro k q hq
    match k, hq with
    | 0, hq => cases hq; exact u_known (ws := TB) hT uw_J0 (hts (.instantiable RJ0 4) (by decide +kernel))
    | 1, hq => cases hq; exact u_known (ws := TB) hT uw_J4 (hts (.instantiable RJ4 4) (by decide +kernel))
    | 2, hq => cases hq; exact u_known (ws := TB) hT uw_X0 (hts (.instantiable RX0 6) (by decide +kernel))
    | 3, hq => cases hq; exact u_known (ws := TB) hT uw_X1 (hts (.instantiable RX1 3) (by decide +kernel))
    | 4, hq => cases hq; exact u_known (ws := TB) hT uw_X2 (hts (.instantiable RX2 2) (by decide +kernel))
    | 5, hq => cases hq; exact u_known (ws := TB) hT uw_X3 (hts (.instantiable RX3 1) (by decide +kernel))
    | 6, hq => cases hq; exact u_known (ws := TB) hT uw_X4 (hts (.instantiable RX4 1) (by decide +kernel))
    | 7, hq => cases hq; exact u_known (ws := TB) hT uw_X5 (hts (.instantiable RX5 7) (by decide +kernel))
    | 8, hq => cases hq; exact u_known (ws := TB) hT uw_X6 (hts (.instantiable RX6 2) (by decide +kernel))
    | 9, hq => cases hq; exact u_known (ws := TB) hT uw_X7 (hts (.instantiable RX7 6) (by decide +kernel))
    | k + 10, hq => simp [vwCl] at hq
  have hch : ∀ k : Nat, ∃ z : ClassId × (Nat → Nat), ∀ q : vw_C, vwCl[k]? = some q → u_Kn s q.1 q.2.1 q.2.2 z.1 z.2 := by
    intro k
    cases hk : vwCl[k]? with
    | none => exact ⟨(0, fun _ => 0), fun q h => by cases h⟩
    | some q =>
      obtain ⟨c1, i1, h1⟩ := hkn k q hk
      exact ⟨(c1, i1), fun q' h => by cases h; exact h1⟩
  obtain ⟨ch, hch⟩ := Classical.axiomOfChoice hch
  obtain ⟨cI, kI, pI, i1, i2, i3⟩ := Cond.arrayClass_spec (hts (.arrayClass .int) (by decide +kernel))
  obtain ⟨cB, kB, pB, b1, b2, b3⟩ := Cond.arrayClass_spec (hts (.arrayClass .byte) (by decide +kernel))
  obtain ⟨pM, cM, kM, m1, m2, m3, m4, m5⟩ := Cond.arrayOver_spec (hts (.arrayOver (.object "Sumlarder$Memory")) (by decide +kernel))
  obtain ⟨pL, cL, kL, l1, l2, l3, l4, l5⟩ := Cond.arrayOver_spec (hts (.arrayOver (.object "Sumlarder$Ledger")) (by decide +kernel))
  obtain ⟨pW, cW, kW, w1, w2, w3, w4, w5⟩ := Cond.arrayOver_spec (hts (.arrayOver (.object "Sumlarder$Way")) (by decide +kernel))
  have hAA := hts (.arrayOver (.array .int)) (by decide +kernel)
  obtain ⟨pA, cA, kA, a1, a2, a3, a4, a5⟩ := arrayOverA_spec hAA
  refine ⟨(fun k => (ch k).1, fun k => (ch k).2), fun k => match k with | 0 => cI | 1 => cM | 2 => cL | 3 => cW | 4 => cA | _ => cB, ⟨hch, fun k q hq => ?_⟩, fun A hA => ?_⟩
  · match k, hq with
    | 0, hq => cases hq; exact ⟨fun n z => ⟨fun k h => (by cases h), kI, i2, pI, i3⟩, i1⟩
    | 1, hq => cases hq; exact ⟨fun n z => ⟨fun k h => (by cases h), kM, m3, pM, m4⟩, kM, pM, m3, m4, m1, m5⟩
    | 2, hq => cases hq; exact ⟨fun n z => ⟨fun k h => (by cases h), kL, l3, pL, l4⟩, kL, pL, l3, l4, l1, l5⟩
    | 3, hq => cases hq; exact ⟨fun n z => ⟨fun k h => (by cases h), kW, w3, pW, w4⟩, kW, pW, w3, w4, w1, w5⟩
    | 4, hq => cases hq; exact ⟨fun n z => ⟨fun k h => (by cases h), kA, a3, pA, a4⟩, a5⟩
    | 5, hq => cases hq; exact ⟨fun n z => ⟨fun k h => (by cases h), kB, b2, pB, b3⟩, b1⟩
    | k + 6, hq => simp [tysOf] at hq
  · have hstr : ∀ q ∈ STRS, Cond.stringRef q.1 q.2.1 q.2.2 ∈ lw_tbl ∧ Cond.exactly (.string q.1 q.2.1) "java/lang/String" ∈ flatC (Jvm.Cond.and given_1 narrow_1) := by decide +kernel
    have hin : ∀ (k : Nat) (g : Nat → Cond), ((flatC (Jvm.Cond.and given_1 narrow_1)).drop k).take 100 = (List.range 100).map g → ∀ j, j < 100 → g j ∈ flatC (Jvm.Cond.and given_1 narrow_1) := by
      intro k g h j hj
      have h1 : g j ∈ (List.range 100).map g := List.mem_map.mpr ⟨j, List.mem_range.mpr hj, rfl⟩
      rw [← h] at h1
      exact List.mem_of_mem_drop (List.mem_of_mem_take h1)
    have hd1 := hin 14 (fun j => Cond.eq (.elem (.static "java/lang/Integer" "DigitOnes" "[B") (.int (Int32.ofNat j))) (.int (Int32.ofNat (48 + j % 10)))) (by decide +kernel)
    have hd2 := hin 117 (fun j => Cond.eq (.elem (.static "java/lang/Integer" "DigitTens" "[B") (.int (Int32.ofNat j))) (.int (Int32.ofNat (48 + j / 10)))) (by decide +kernel)
    have htab : ∀ q ∈ TABS, Cond.laysStatic "java/lang/Integer" q.1 "[B" ∈ lw_tbl ∧ Cond.arrayOf (.static "java/lang/Integer" q.1 "[B") .byte ∈ flatC (Jvm.Cond.and given_1 narrow_1) ∧ Cond.eq (.length (.static "java/lang/Integer" q.1 "[B")) (.int (Int32.ofNat 100)) ∈ flatC (Jvm.Cond.and given_1 narrow_1) ∧ ∀ j, j < 100 → Cond.eq (.elem (.static "java/lang/Integer" q.1 "[B") (.int (Int32.ofNat j))) (.int (q.2 j)) ∈ flatC (Jvm.Cond.and given_1 narrow_1) := by
      intro q hq
      rcases List.mem_cons.mp hq with rfl | hq
      · exact ⟨by decide +kernel, by decide +kernel, by decide +kernel, hd1⟩
      · rcases List.mem_cons.mp hq with rfl | hq
        · exact ⟨by decide +kernel, by decide +kernel, by decide +kernel, hd2⟩
        · cases hq
    refine ⟨vx_Zqof (hts (.laysStatic Bundle.tN "UNASSIGNED_STACK" Bundle.steD) (by decide +kernel)) (hts (.initialized Bundle.tN) (by decide +kernel)) (hfl (.isRef (.static Bundle.tN "UNASSIGNED_STACK" Bundle.steD)) (by decide +kernel)) hA, vx_Zqof (hts (.laysStatic Bundle.tN "SUPPRESSED_SENTINEL" Bundle.listD) (by decide +kernel)) (hts (.initialized Bundle.tN) (by decide +kernel)) (hfl (.isRef (.static Bundle.tN "SUPPRESSED_SENTINEL" Bundle.listD)) (by decide +kernel)) hA, va_Zof (hts (.laysStatic "java/lang/String" "COMPACT_STRINGS" "Z") (by decide +kernel)) (hts (.initialized "java/lang/String") (by decide +kernel)) (va_eqt (hfl (.eq (.static "java/lang/String" "COMPACT_STRINGS" "Z") (.int 1)) (by decide +kernel))) hA, fun q hq => ?_, fun C hC => ?_, fun w hw => ?_, va_AOA.of hAA, va_Nc.of (hfl (.not (.castable "java/lang/IllegalArgumentException" "java/lang/IndexOutOfBoundsException")) (by decide +kernel)), fun q hq => ?_⟩
    · obtain ⟨h1, h2⟩ := hstr q hq
      obtain ⟨a, c, cell, k, e1, -⟩ := Cond.exactly_spec (hfl _ h2)
      exact ⟨a, vk_R.of (hts _ h1) e1⟩
    · have h1 : Cond.arrayOver (.object C) ∈ lw_tbl := by
        have h2 : ∀ C ∈ AOS, Cond.arrayOver (.object C) ∈ lw_tbl := by decide +kernel
        exact h2 C hC
      exact va_AO.of (hts _ h1)
    · exact va_Nw.of (ngw_tabs (List.mem_filter.mp hw).2) (hts w (List.mem_append_right _ (List.mem_filter.mp hw).1))
    · obtain ⟨h1, h2, h3, h4⟩ := htab q hq
      obtain ⟨t, ht, hT1⟩ := va_Tof (args := #[Value.ref b]) (s := s) (tm := .static "java/lang/Integer" q.1 "[B") (ty := .byte) (N := 100) (f := fun j => .int (q.2 j)) (A := A) (by decide) (hfl _ h2) (va_eqt (hfl _ h3)) (fun j hj => va_eqt (hfl _ (h4 j hj))) hA
      exact ⟨t, va_Zof (hts _ h1) (hts (.initialized "java/lang/Integer") (by decide +kernel)) ht hA, hT1⟩


end MG_46afacts
section MG_46bdefs
def S0of (z : Int32 × (Nat → Int32) × Int32 × (Nat → Int32) × Int32 × (Nat → Int32) × Int32 × Int32 × (Nat → Int32) × Int32 × Int32 × (Nat → Int32) × Int32 × Int32 × (Nat → Int32) × (Nat → Int32) × (Nat → Int32) × Int32 × Int32 × Int32 × Int32 × Int32 × Int32 × (Nat → Int32) × (Nat → Int32) × (Nat → Int32)) : CS := ((fun j => if j = 0 then (z.1, z.2.1) else if j = 1 then (z.2.2.1, z.2.2.2.1) else (z.2.2.2.2.1, z.2.2.2.2.2.1)), (fun j => if j = 0 then (z.2.2.2.2.2.2.1, z.2.2.2.2.2.2.2.1, z.2.2.2.2.2.2.2.2.1) else if j = 1 then (z.2.2.2.2.2.2.2.2.2.1, z.2.2.2.2.2.2.2.2.2.2.1, z.2.2.2.2.2.2.2.2.2.2.2.1) else (z.2.2.2.2.2.2.2.2.2.2.2.2.1, z.2.2.2.2.2.2.2.2.2.2.2.2.2.1, z.2.2.2.2.2.2.2.2.2.2.2.2.2.2.1)), (fun j => if j = 0 then z.2.2.2.2.2.2.2.2.2.2.2.2.2.2.2.1 else z.2.2.2.2.2.2.2.2.2.2.2.2.2.2.2.2.1), (fun j => if j = 0 then z.2.2.2.2.2.2.2.2.2.2.2.2.2.2.2.2.2.1 else if j = 1 then z.2.2.2.2.2.2.2.2.2.2.2.2.2.2.2.2.2.2.1 else if j = 2 then z.2.2.2.2.2.2.2.2.2.2.2.2.2.2.2.2.2.2.2.1 else if j = 3 then z.2.2.2.2.2.2.2.2.2.2.2.2.2.2.2.2.2.2.2.2.1 else if j = 4 then z.2.2.2.2.2.2.2.2.2.2.2.2.2.2.2.2.2.2.2.2.2.1 else z.2.2.2.2.2.2.2.2.2.2.2.2.2.2.2.2.2.2.2.2.2.2.1), z.2.2.2.2.2.2.2.2.2.2.2.2.2.2.2.2.2.2.2.2.2.2.2.1, z.2.2.2.2.2.2.2.2.2.2.2.2.2.2.2.2.2.2.2.2.2.2.2.2.1, z.2.2.2.2.2.2.2.2.2.2.2.2.2.2.2.2.2.2.2.2.2.2.2.2.2)
def M0of (z : (Nat → Int32) × (Nat → Int32) × (Nat → Int32) × (Nat → Int32) × (Nat → Int32) × (Nat → Int32) × (Nat → Int32) × (Nat → Int32) × (Nat → Int32) × (Nat → Int32)) : MS := ((fun j => if j = 0 then z.1 else if j = 1 then z.2.1 else z.2.2.1), (fun j => if j = 0 then z.2.2.2.1 else if j = 1 then z.2.2.2.2.1 else z.2.2.2.2.2.1), (fun j => if j = 0 then z.2.2.2.2.2.2.1 else z.2.2.2.2.2.2.2.1), z.2.2.2.2.2.2.2.2.1, z.2.2.2.2.2.2.2.2.2, (0 : Int32))
def rcons (a : Nat) (g : Nat → Nat) : Nat → Nat := fun n => match n with | 0 => a | n + 1 => g n
def flaw0 (N K L : Nat) (xs : Nat → Int32) : Option Int32 :=
  ((fX5_init N K ).bind (fun x4 => ((fX7_init N K (0 : Int32)).bind (fun x12 => ((fX6_init N K (0 : Int64)).bind (fun x20 => flaw N K L xs 100 (0 : Int32) (S0of x4) (M0of x12) (0 : Int64)))))))

end MG_46bdefs
section MG_46centry
set_option maxHeartbeats 4000000 in
set_option maxRecDepth 100000 in
theorem tlaw0 {nm : String} {hh : List (Nat × Nat × Nat × Nat)} {N K b L : Nat} {xs : Nat → Int32} : AW RL nm cL_law 7 (some .boolean) hh (XS b L xs) (2 * K + 20) (PZ) 600128 7301098 (flaw0 N K L xs) 0 [(0, .ref b)] [] [] := by
  unfold flaw0
  refine aw_new (q := 3) (kc' := 600127) (ks' := 7301091) (ws' := fun r0 => [(r0, .inr (7, [.null, .null, .null, .null, .null, .null, .null]))]) dL_law_0 rfl nw_L_8 (by omega) (by omega) (fun _ => rfl) (fun r0 => ?_)
  refine aw_dup (q := 4) dL_law_3 rfl rfl ?_
  refine aw_call (q := 7) (kc1 := 600101) (ks1 := 7292951) (wc := [(r0, .inr (7, [.null, .null, .null, .null, .null, .null, .null]))]) (wr := []) (st1 := fun x4 g4 => [.ref r0]) (ws1 := fun x4 g4 => [(r0, .inr (7, [.ref (g4 0), .ref (g4 7), .ref (g4 14), .ref (g4 19), .ref (g4 20), .ref (g4 22), .ref (g4 24)])), ((g4 0), .inl (1, 3, .inr (.inr (.inr (.inr (va_up (va_up (va_up (fun _ => none) (0 : Int32).toNatClampNeg (some (g4 1))) (1 : Int32).toNatClampNeg (some (g4 3))) (2 : Int32).toNatClampNeg (some (g4 5)))))))), ((g4 1), .inr (4, [.ref (g4 2), .int x4.1])), ((g4 2), .inl (0, 2646, .inl x4.2.1)), ((g4 3), .inr (4, [.ref (g4 4), .int x4.2.2.1])), ((g4 4), .inl (0, 2646, .inl x4.2.2.2.1)), ((g4 5), .inr (4, [.ref (g4 6), .int x4.2.2.2.2.1])), ((g4 6), .inl (0, 2646, .inl x4.2.2.2.2.2.1)), ((g4 7), .inl (2, 3, .inr (.inr (.inr (.inr (va_up (va_up (va_up (fun _ => none) (0 : Int32).toNatClampNeg (some (g4 8))) (1 : Int32).toNatClampNeg (some (g4 10))) (2 : Int32).toNatClampNeg (some (g4 12)))))))), ((g4 8), .inr (3, [.int x4.2.2.2.2.2.2.1, .ref (g4 9), .int x4.2.2.2.2.2.2.2.1])), ((g4 9), .inl (0, 21, .inl x4.2.2.2.2.2.2.2.2.1)), ((g4 10), .inr (3, [.int x4.2.2.2.2.2.2.2.2.2.1, .ref (g4 11), .int x4.2.2.2.2.2.2.2.2.2.2.1])), ((g4 11), .inl (0, 21, .inl x4.2.2.2.2.2.2.2.2.2.2.2.1)), ((g4 12), .inr (3, [.int x4.2.2.2.2.2.2.2.2.2.2.2.2.1, .ref (g4 13), .int x4.2.2.2.2.2.2.2.2.2.2.2.2.2.1])), ((g4 13), .inl (0, 21, .inl x4.2.2.2.2.2.2.2.2.2.2.2.2.2.2.1)), ((g4 14), .inl (3, 2, .inr (.inr (.inr (.inr (va_up (va_up (fun _ => none) (0 : Int32).toNatClampNeg (some (g4 15))) (1 : Int32).toNatClampNeg (some (g4 17)))))))), ((g4 15), .inr (6, [.ref (g4 16)])), ((g4 16), .inl (0, 21, .inl x4.2.2.2.2.2.2.2.2.2.2.2.2.2.2.2.1)), ((g4 17), .inr (6, [.ref (g4 18)])), ((g4 18), .inl (0, 21, .inl x4.2.2.2.2.2.2.2.2.2.2.2.2.2.2.2.2.1)), ((g4 19), .inr (2, [.int x4.2.2.2.2.2.2.2.2.2.2.2.2.2.2.2.2.2.1, .int x4.2.2.2.2.2.2.2.2.2.2.2.2.2.2.2.2.2.2.1, .int x4.2.2.2.2.2.2.2.2.2.2.2.2.2.2.2.2.2.2.2.1, .int x4.2.2.2.2.2.2.2.2.2.2.2.2.2.2.2.2.2.2.2.2.1, .int x4.2.2.2.2.2.2.2.2.2.2.2.2.2.2.2.2.2.2.2.2.2.1, .int x4.2.2.2.2.2.2.2.2.2.2.2.2.2.2.2.2.2.2.2.2.2.2.1])), ((g4 20), .inr (5, [.ref (g4 21)])), ((g4 21), .inl (0, 21, .inl x4.2.2.2.2.2.2.2.2.2.2.2.2.2.2.2.2.2.2.2.2.2.2.2.1)), ((g4 22), .inr (6, [.ref (g4 23)])), ((g4 23), .inl (0, 21, .inl x4.2.2.2.2.2.2.2.2.2.2.2.2.2.2.2.2.2.2.2.2.2.2.2.2.1)), ((g4 24), .inr (6, [.ref (g4 25)])), ((g4 25), .inl (0, 21, .inl x4.2.2.2.2.2.2.2.2.2.2.2.2.2.2.2.2.2.2.2.2.2.2.2.2.2))]) (As := [.ref r0]) [0] [] (fun _ => runI dL_law_4 mi_X5_init rfl im_X5_init ml_L_150 (by omega) rfl (Nat.le_of_ble_eq_true rfl) rfl) (fun x9 h9 => ok_X5_init h9) rfl rfl rfl rfl rfl (by decide +kernel) (by omega) (by omega) (fun _ _ => rfl) (fun _ _ => rfl) (fun x4 g4 => ?_)
  refine aw_astore_n (q := 8) (lv' := [(1, .ref r0), (0, .ref b)]) dL_law_7 rfl (by decide) rfl ?_
  refine aw_new (q := 11) (kc' := 600100) (ks' := 7292945) (ws' := fun r8 => [(r0, .inr (7, [.ref (g4 0), .ref (g4 7), .ref (g4 14), .ref (g4 19), .ref (g4 20), .ref (g4 22), .ref (g4 24)])), ((g4 0), .inl (1, 3, .inr (.inr (.inr (.inr (va_up (va_up (va_up (fun _ => none) (0 : Int32).toNatClampNeg (some (g4 1))) (1 : Int32).toNatClampNeg (some (g4 3))) (2 : Int32).toNatClampNeg (some (g4 5)))))))), ((g4 1), .inr (4, [.ref (g4 2), .int x4.1])), ((g4 2), .inl (0, 2646, .inl x4.2.1)), ((g4 3), .inr (4, [.ref (g4 4), .int x4.2.2.1])), ((g4 4), .inl (0, 2646, .inl x4.2.2.2.1)), ((g4 5), .inr (4, [.ref (g4 6), .int x4.2.2.2.2.1])), ((g4 6), .inl (0, 2646, .inl x4.2.2.2.2.2.1)), ((g4 7), .inl (2, 3, .inr (.inr (.inr (.inr (va_up (va_up (va_up (fun _ => none) (0 : Int32).toNatClampNeg (some (g4 8))) (1 : Int32).toNatClampNeg (some (g4 10))) (2 : Int32).toNatClampNeg (some (g4 12)))))))), ((g4 8), .inr (3, [.int x4.2.2.2.2.2.2.1, .ref (g4 9), .int x4.2.2.2.2.2.2.2.1])), ((g4 9), .inl (0, 21, .inl x4.2.2.2.2.2.2.2.2.1)), ((g4 10), .inr (3, [.int x4.2.2.2.2.2.2.2.2.2.1, .ref (g4 11), .int x4.2.2.2.2.2.2.2.2.2.2.1])), ((g4 11), .inl (0, 21, .inl x4.2.2.2.2.2.2.2.2.2.2.2.1)), ((g4 12), .inr (3, [.int x4.2.2.2.2.2.2.2.2.2.2.2.2.1, .ref (g4 13), .int x4.2.2.2.2.2.2.2.2.2.2.2.2.2.1])), ((g4 13), .inl (0, 21, .inl x4.2.2.2.2.2.2.2.2.2.2.2.2.2.2.1)), ((g4 14), .inl (3, 2, .inr (.inr (.inr (.inr (va_up (va_up (fun _ => none) (0 : Int32).toNatClampNeg (some (g4 15))) (1 : Int32).toNatClampNeg (some (g4 17)))))))), ((g4 15), .inr (6, [.ref (g4 16)])), ((g4 16), .inl (0, 21, .inl x4.2.2.2.2.2.2.2.2.2.2.2.2.2.2.2.1)), ((g4 17), .inr (6, [.ref (g4 18)])), ((g4 18), .inl (0, 21, .inl x4.2.2.2.2.2.2.2.2.2.2.2.2.2.2.2.2.1)), ((g4 19), .inr (2, [.int x4.2.2.2.2.2.2.2.2.2.2.2.2.2.2.2.2.2.1, .int x4.2.2.2.2.2.2.2.2.2.2.2.2.2.2.2.2.2.2.1, .int x4.2.2.2.2.2.2.2.2.2.2.2.2.2.2.2.2.2.2.2.1, .int x4.2.2.2.2.2.2.2.2.2.2.2.2.2.2.2.2.2.2.2.2.1, .int x4.2.2.2.2.2.2.2.2.2.2.2.2.2.2.2.2.2.2.2.2.2.1, .int x4.2.2.2.2.2.2.2.2.2.2.2.2.2.2.2.2.2.2.2.2.2.2.1])), ((g4 20), .inr (5, [.ref (g4 21)])), ((g4 21), .inl (0, 21, .inl x4.2.2.2.2.2.2.2.2.2.2.2.2.2.2.2.2.2.2.2.2.2.2.2.1)), ((g4 22), .inr (6, [.ref (g4 23)])), ((g4 23), .inl (0, 21, .inl x4.2.2.2.2.2.2.2.2.2.2.2.2.2.2.2.2.2.2.2.2.2.2.2.2.1)), ((g4 24), .inr (6, [.ref (g4 25)])), ((g4 25), .inl (0, 21, .inl x4.2.2.2.2.2.2.2.2.2.2.2.2.2.2.2.2.2.2.2.2.2.2.2.2.2)), (r8, .inr (9, [.null, .null, .null, .null, .null, .int (0 : Int32)]))]) dL_law_8 rfl nw_L_151 (by omega) (by omega) (fun _ => rfl) (fun r8 => ?_)
  refine aw_dup (q := 12) dL_law_11 rfl rfl ?_
  refine aw_call (q := 15) (kc1 := 600087) (ks1 := 7273948) (wc := [(r8, .inr (9, [.null, .null, .null, .null, .null, .int (0 : Int32)]))]) (wr := [(r0, .inr (7, [.ref (g4 0), .ref (g4 7), .ref (g4 14), .ref (g4 19), .ref (g4 20), .ref (g4 22), .ref (g4 24)])), ((g4 0), .inl (1, 3, .inr (.inr (.inr (.inr (va_up (va_up (va_up (fun _ => none) (0 : Int32).toNatClampNeg (some (g4 1))) (1 : Int32).toNatClampNeg (some (g4 3))) (2 : Int32).toNatClampNeg (some (g4 5)))))))), ((g4 1), .inr (4, [.ref (g4 2), .int x4.1])), ((g4 2), .inl (0, 2646, .inl x4.2.1)), ((g4 3), .inr (4, [.ref (g4 4), .int x4.2.2.1])), ((g4 4), .inl (0, 2646, .inl x4.2.2.2.1)), ((g4 5), .inr (4, [.ref (g4 6), .int x4.2.2.2.2.1])), ((g4 6), .inl (0, 2646, .inl x4.2.2.2.2.2.1)), ((g4 7), .inl (2, 3, .inr (.inr (.inr (.inr (va_up (va_up (va_up (fun _ => none) (0 : Int32).toNatClampNeg (some (g4 8))) (1 : Int32).toNatClampNeg (some (g4 10))) (2 : Int32).toNatClampNeg (some (g4 12)))))))), ((g4 8), .inr (3, [.int x4.2.2.2.2.2.2.1, .ref (g4 9), .int x4.2.2.2.2.2.2.2.1])), ((g4 9), .inl (0, 21, .inl x4.2.2.2.2.2.2.2.2.1)), ((g4 10), .inr (3, [.int x4.2.2.2.2.2.2.2.2.2.1, .ref (g4 11), .int x4.2.2.2.2.2.2.2.2.2.2.1])), ((g4 11), .inl (0, 21, .inl x4.2.2.2.2.2.2.2.2.2.2.2.1)), ((g4 12), .inr (3, [.int x4.2.2.2.2.2.2.2.2.2.2.2.2.1, .ref (g4 13), .int x4.2.2.2.2.2.2.2.2.2.2.2.2.2.1])), ((g4 13), .inl (0, 21, .inl x4.2.2.2.2.2.2.2.2.2.2.2.2.2.2.1)), ((g4 14), .inl (3, 2, .inr (.inr (.inr (.inr (va_up (va_up (fun _ => none) (0 : Int32).toNatClampNeg (some (g4 15))) (1 : Int32).toNatClampNeg (some (g4 17)))))))), ((g4 15), .inr (6, [.ref (g4 16)])), ((g4 16), .inl (0, 21, .inl x4.2.2.2.2.2.2.2.2.2.2.2.2.2.2.2.1)), ((g4 17), .inr (6, [.ref (g4 18)])), ((g4 18), .inl (0, 21, .inl x4.2.2.2.2.2.2.2.2.2.2.2.2.2.2.2.2.1)), ((g4 19), .inr (2, [.int x4.2.2.2.2.2.2.2.2.2.2.2.2.2.2.2.2.2.1, .int x4.2.2.2.2.2.2.2.2.2.2.2.2.2.2.2.2.2.2.1, .int x4.2.2.2.2.2.2.2.2.2.2.2.2.2.2.2.2.2.2.2.1, .int x4.2.2.2.2.2.2.2.2.2.2.2.2.2.2.2.2.2.2.2.2.1, .int x4.2.2.2.2.2.2.2.2.2.2.2.2.2.2.2.2.2.2.2.2.2.1, .int x4.2.2.2.2.2.2.2.2.2.2.2.2.2.2.2.2.2.2.2.2.2.2.1])), ((g4 20), .inr (5, [.ref (g4 21)])), ((g4 21), .inl (0, 21, .inl x4.2.2.2.2.2.2.2.2.2.2.2.2.2.2.2.2.2.2.2.2.2.2.2.1)), ((g4 22), .inr (6, [.ref (g4 23)])), ((g4 23), .inl (0, 21, .inl x4.2.2.2.2.2.2.2.2.2.2.2.2.2.2.2.2.2.2.2.2.2.2.2.2.1)), ((g4 24), .inr (6, [.ref (g4 25)])), ((g4 25), .inl (0, 21, .inl x4.2.2.2.2.2.2.2.2.2.2.2.2.2.2.2.2.2.2.2.2.2.2.2.2.2))]) (st1 := fun x12 g12 => [.ref r8]) (ws1 := fun x12 g12 => [(r0, .inr (7, [.ref (g4 0), .ref (g4 7), .ref (g4 14), .ref (g4 19), .ref (g4 20), .ref (g4 22), .ref (g4 24)])), ((g4 0), .inl (1, 3, .inr (.inr (.inr (.inr (va_up (va_up (va_up (fun _ => none) (0 : Int32).toNatClampNeg (some (g4 1))) (1 : Int32).toNatClampNeg (some (g4 3))) (2 : Int32).toNatClampNeg (some (g4 5)))))))), ((g4 1), .inr (4, [.ref (g4 2), .int x4.1])), ((g4 2), .inl (0, 2646, .inl x4.2.1)), ((g4 3), .inr (4, [.ref (g4 4), .int x4.2.2.1])), ((g4 4), .inl (0, 2646, .inl x4.2.2.2.1)), ((g4 5), .inr (4, [.ref (g4 6), .int x4.2.2.2.2.1])), ((g4 6), .inl (0, 2646, .inl x4.2.2.2.2.2.1)), ((g4 7), .inl (2, 3, .inr (.inr (.inr (.inr (va_up (va_up (va_up (fun _ => none) (0 : Int32).toNatClampNeg (some (g4 8))) (1 : Int32).toNatClampNeg (some (g4 10))) (2 : Int32).toNatClampNeg (some (g4 12)))))))), ((g4 8), .inr (3, [.int x4.2.2.2.2.2.2.1, .ref (g4 9), .int x4.2.2.2.2.2.2.2.1])), ((g4 9), .inl (0, 21, .inl x4.2.2.2.2.2.2.2.2.1)), ((g4 10), .inr (3, [.int x4.2.2.2.2.2.2.2.2.2.1, .ref (g4 11), .int x4.2.2.2.2.2.2.2.2.2.2.1])), ((g4 11), .inl (0, 21, .inl x4.2.2.2.2.2.2.2.2.2.2.2.1)), ((g4 12), .inr (3, [.int x4.2.2.2.2.2.2.2.2.2.2.2.2.1, .ref (g4 13), .int x4.2.2.2.2.2.2.2.2.2.2.2.2.2.1])), ((g4 13), .inl (0, 21, .inl x4.2.2.2.2.2.2.2.2.2.2.2.2.2.2.1)), ((g4 14), .inl (3, 2, .inr (.inr (.inr (.inr (va_up (va_up (fun _ => none) (0 : Int32).toNatClampNeg (some (g4 15))) (1 : Int32).toNatClampNeg (some (g4 17)))))))), ((g4 15), .inr (6, [.ref (g4 16)])), ((g4 16), .inl (0, 21, .inl x4.2.2.2.2.2.2.2.2.2.2.2.2.2.2.2.1)), ((g4 17), .inr (6, [.ref (g4 18)])), ((g4 18), .inl (0, 21, .inl x4.2.2.2.2.2.2.2.2.2.2.2.2.2.2.2.2.1)), ((g4 19), .inr (2, [.int x4.2.2.2.2.2.2.2.2.2.2.2.2.2.2.2.2.2.1, .int x4.2.2.2.2.2.2.2.2.2.2.2.2.2.2.2.2.2.2.1, .int x4.2.2.2.2.2.2.2.2.2.2.2.2.2.2.2.2.2.2.2.1, .int x4.2.2.2.2.2.2.2.2.2.2.2.2.2.2.2.2.2.2.2.2.1, .int x4.2.2.2.2.2.2.2.2.2.2.2.2.2.2.2.2.2.2.2.2.2.1, .int x4.2.2.2.2.2.2.2.2.2.2.2.2.2.2.2.2.2.2.2.2.2.2.1])), ((g4 20), .inr (5, [.ref (g4 21)])), ((g4 21), .inl (0, 21, .inl x4.2.2.2.2.2.2.2.2.2.2.2.2.2.2.2.2.2.2.2.2.2.2.2.1)), ((g4 22), .inr (6, [.ref (g4 23)])), ((g4 23), .inl (0, 21, .inl x4.2.2.2.2.2.2.2.2.2.2.2.2.2.2.2.2.2.2.2.2.2.2.2.2.1)), ((g4 24), .inr (6, [.ref (g4 25)])), ((g4 25), .inl (0, 21, .inl x4.2.2.2.2.2.2.2.2.2.2.2.2.2.2.2.2.2.2.2.2.2.2.2.2.2)), (r8, .inr (9, [.ref (g12 0), .ref (g12 4), .ref (g12 8), .ref (g12 11), .ref (g12 12), .int (0 : Int32)])), ((g12 0), .inl (4, 3, .inr (.inr (.inr (.inr (va_up (va_up (va_up (fun _ => none) 0 (some (g12 1))) 1 (some (g12 2))) 2 (some (g12 3)))))))), ((g12 1), .inl (0, 6144, .inl x12.1)), ((g12 2), .inl (0, 6144, .inl x12.2.1)), ((g12 3), .inl (0, 6144, .inl x12.2.2.1)), ((g12 4), .inl (4, 3, .inr (.inr (.inr (.inr (va_up (va_up (va_up (fun _ => none) 0 (some (g12 5))) 1 (some (g12 6))) 2 (some (g12 7)))))))), ((g12 5), .inl (0, 21, .inl x12.2.2.2.1)), ((g12 6), .inl (0, 21, .inl x12.2.2.2.2.1)), ((g12 7), .inl (0, 21, .inl x12.2.2.2.2.2.1)), ((g12 8), .inl (4, 2, .inr (.inr (.inr (.inr (va_up (va_up (fun _ => none) 0 (some (g12 9))) 1 (some (g12 10)))))))), ((g12 9), .inl (0, 21, .inl x12.2.2.2.2.2.2.1)), ((g12 10), .inl (0, 21, .inl x12.2.2.2.2.2.2.2.1)), ((g12 11), .inl (0, 6, .inl x12.2.2.2.2.2.2.2.2.1)), ((g12 12), .inl (0, 441, .inl x12.2.2.2.2.2.2.2.2.2))]) (As := [.ref r8]) [27] [0, 1, 2, 3, 4, 5, 6, 7, 8, 9, 10, 11, 12, 13, 14, 15, 16, 17, 18, 19, 20, 21, 22, 23, 24, 25, 26] (fun _ => runI dL_law_12 mi_X7_init rfl im_X7_init ml_L_153 (by omega) rfl (Nat.le_of_ble_eq_true rfl) rfl) (fun x9 h9 => ok_X7_init h9) rfl rfl rfl rfl rfl (by decide +kernel) (by omega) (by omega) (fun _ _ => rfl) (fun _ _ => rfl) (fun x12 g12 => ?_)
  refine aw_astore_n (q := 16) (lv' := [(2, .ref r8), (1, .ref r0), (0, .ref b)]) dL_law_15 rfl (by decide) rfl ?_
  refine aw_new (q := 19) (kc' := 600086) (ks' := 7273946) (ws' := fun r16 => [(r0, .inr (7, [.ref (g4 0), .ref (g4 7), .ref (g4 14), .ref (g4 19), .ref (g4 20), .ref (g4 22), .ref (g4 24)])), ((g4 0), .inl (1, 3, .inr (.inr (.inr (.inr (va_up (va_up (va_up (fun _ => none) (0 : Int32).toNatClampNeg (some (g4 1))) (1 : Int32).toNatClampNeg (some (g4 3))) (2 : Int32).toNatClampNeg (some (g4 5)))))))), ((g4 1), .inr (4, [.ref (g4 2), .int x4.1])), ((g4 2), .inl (0, 2646, .inl x4.2.1)), ((g4 3), .inr (4, [.ref (g4 4), .int x4.2.2.1])), ((g4 4), .inl (0, 2646, .inl x4.2.2.2.1)), ((g4 5), .inr (4, [.ref (g4 6), .int x4.2.2.2.2.1])), ((g4 6), .inl (0, 2646, .inl x4.2.2.2.2.2.1)), ((g4 7), .inl (2, 3, .inr (.inr (.inr (.inr (va_up (va_up (va_up (fun _ => none) (0 : Int32).toNatClampNeg (some (g4 8))) (1 : Int32).toNatClampNeg (some (g4 10))) (2 : Int32).toNatClampNeg (some (g4 12)))))))), ((g4 8), .inr (3, [.int x4.2.2.2.2.2.2.1, .ref (g4 9), .int x4.2.2.2.2.2.2.2.1])), ((g4 9), .inl (0, 21, .inl x4.2.2.2.2.2.2.2.2.1)), ((g4 10), .inr (3, [.int x4.2.2.2.2.2.2.2.2.2.1, .ref (g4 11), .int x4.2.2.2.2.2.2.2.2.2.2.1])), ((g4 11), .inl (0, 21, .inl x4.2.2.2.2.2.2.2.2.2.2.2.1)), ((g4 12), .inr (3, [.int x4.2.2.2.2.2.2.2.2.2.2.2.2.1, .ref (g4 13), .int x4.2.2.2.2.2.2.2.2.2.2.2.2.2.1])), ((g4 13), .inl (0, 21, .inl x4.2.2.2.2.2.2.2.2.2.2.2.2.2.2.1)), ((g4 14), .inl (3, 2, .inr (.inr (.inr (.inr (va_up (va_up (fun _ => none) (0 : Int32).toNatClampNeg (some (g4 15))) (1 : Int32).toNatClampNeg (some (g4 17)))))))), ((g4 15), .inr (6, [.ref (g4 16)])), ((g4 16), .inl (0, 21, .inl x4.2.2.2.2.2.2.2.2.2.2.2.2.2.2.2.1)), ((g4 17), .inr (6, [.ref (g4 18)])), ((g4 18), .inl (0, 21, .inl x4.2.2.2.2.2.2.2.2.2.2.2.2.2.2.2.2.1)), ((g4 19), .inr (2, [.int x4.2.2.2.2.2.2.2.2.2.2.2.2.2.2.2.2.2.1, .int x4.2.2.2.2.2.2.2.2.2.2.2.2.2.2.2.2.2.2.1, .int x4.2.2.2.2.2.2.2.2.2.2.2.2.2.2.2.2.2.2.2.1, .int x4.2.2.2.2.2.2.2.2.2.2.2.2.2.2.2.2.2.2.2.2.1, .int x4.2.2.2.2.2.2.2.2.2.2.2.2.2.2.2.2.2.2.2.2.2.1, .int x4.2.2.2.2.2.2.2.2.2.2.2.2.2.2.2.2.2.2.2.2.2.2.1])), ((g4 20), .inr (5, [.ref (g4 21)])), ((g4 21), .inl (0, 21, .inl x4.2.2.2.2.2.2.2.2.2.2.2.2.2.2.2.2.2.2.2.2.2.2.2.1)), ((g4 22), .inr (6, [.ref (g4 23)])), ((g4 23), .inl (0, 21, .inl x4.2.2.2.2.2.2.2.2.2.2.2.2.2.2.2.2.2.2.2.2.2.2.2.2.1)), ((g4 24), .inr (6, [.ref (g4 25)])), ((g4 25), .inl (0, 21, .inl x4.2.2.2.2.2.2.2.2.2.2.2.2.2.2.2.2.2.2.2.2.2.2.2.2.2)), (r8, .inr (9, [.ref (g12 0), .ref (g12 4), .ref (g12 8), .ref (g12 11), .ref (g12 12), .int (0 : Int32)])), ((g12 0), .inl (4, 3, .inr (.inr (.inr (.inr (va_up (va_up (va_up (fun _ => none) 0 (some (g12 1))) 1 (some (g12 2))) 2 (some (g12 3)))))))), ((g12 1), .inl (0, 6144, .inl x12.1)), ((g12 2), .inl (0, 6144, .inl x12.2.1)), ((g12 3), .inl (0, 6144, .inl x12.2.2.1)), ((g12 4), .inl (4, 3, .inr (.inr (.inr (.inr (va_up (va_up (va_up (fun _ => none) 0 (some (g12 5))) 1 (some (g12 6))) 2 (some (g12 7)))))))), ((g12 5), .inl (0, 21, .inl x12.2.2.2.1)), ((g12 6), .inl (0, 21, .inl x12.2.2.2.2.1)), ((g12 7), .inl (0, 21, .inl x12.2.2.2.2.2.1)), ((g12 8), .inl (4, 2, .inr (.inr (.inr (.inr (va_up (va_up (fun _ => none) 0 (some (g12 9))) 1 (some (g12 10)))))))), ((g12 9), .inl (0, 21, .inl x12.2.2.2.2.2.2.1)), ((g12 10), .inl (0, 21, .inl x12.2.2.2.2.2.2.2.1)), ((g12 11), .inl (0, 6, .inl x12.2.2.2.2.2.2.2.2.1)), ((g12 12), .inl (0, 441, .inl x12.2.2.2.2.2.2.2.2.2)), (r16, .inr (8, [.long (0 : Int64), .null]))]) dL_law_16 rfl nw_L_14 (by omega) (by omega) (fun _ => rfl) (fun r16 => ?_)
  refine aw_dup (q := 20) dL_law_19 rfl rfl ?_
  refine aw_call (q := 23) (kc1 := 600086) (ks1 := 7273946) (wc := [(r16, .inr (8, [.long (0 : Int64), .null]))]) (wr := [(r0, .inr (7, [.ref (g4 0), .ref (g4 7), .ref (g4 14), .ref (g4 19), .ref (g4 20), .ref (g4 22), .ref (g4 24)])), ((g4 0), .inl (1, 3, .inr (.inr (.inr (.inr (va_up (va_up (va_up (fun _ => none) (0 : Int32).toNatClampNeg (some (g4 1))) (1 : Int32).toNatClampNeg (some (g4 3))) (2 : Int32).toNatClampNeg (some (g4 5)))))))), ((g4 1), .inr (4, [.ref (g4 2), .int x4.1])), ((g4 2), .inl (0, 2646, .inl x4.2.1)), ((g4 3), .inr (4, [.ref (g4 4), .int x4.2.2.1])), ((g4 4), .inl (0, 2646, .inl x4.2.2.2.1)), ((g4 5), .inr (4, [.ref (g4 6), .int x4.2.2.2.2.1])), ((g4 6), .inl (0, 2646, .inl x4.2.2.2.2.2.1)), ((g4 7), .inl (2, 3, .inr (.inr (.inr (.inr (va_up (va_up (va_up (fun _ => none) (0 : Int32).toNatClampNeg (some (g4 8))) (1 : Int32).toNatClampNeg (some (g4 10))) (2 : Int32).toNatClampNeg (some (g4 12)))))))), ((g4 8), .inr (3, [.int x4.2.2.2.2.2.2.1, .ref (g4 9), .int x4.2.2.2.2.2.2.2.1])), ((g4 9), .inl (0, 21, .inl x4.2.2.2.2.2.2.2.2.1)), ((g4 10), .inr (3, [.int x4.2.2.2.2.2.2.2.2.2.1, .ref (g4 11), .int x4.2.2.2.2.2.2.2.2.2.2.1])), ((g4 11), .inl (0, 21, .inl x4.2.2.2.2.2.2.2.2.2.2.2.1)), ((g4 12), .inr (3, [.int x4.2.2.2.2.2.2.2.2.2.2.2.2.1, .ref (g4 13), .int x4.2.2.2.2.2.2.2.2.2.2.2.2.2.1])), ((g4 13), .inl (0, 21, .inl x4.2.2.2.2.2.2.2.2.2.2.2.2.2.2.1)), ((g4 14), .inl (3, 2, .inr (.inr (.inr (.inr (va_up (va_up (fun _ => none) (0 : Int32).toNatClampNeg (some (g4 15))) (1 : Int32).toNatClampNeg (some (g4 17)))))))), ((g4 15), .inr (6, [.ref (g4 16)])), ((g4 16), .inl (0, 21, .inl x4.2.2.2.2.2.2.2.2.2.2.2.2.2.2.2.1)), ((g4 17), .inr (6, [.ref (g4 18)])), ((g4 18), .inl (0, 21, .inl x4.2.2.2.2.2.2.2.2.2.2.2.2.2.2.2.2.1)), ((g4 19), .inr (2, [.int x4.2.2.2.2.2.2.2.2.2.2.2.2.2.2.2.2.2.1, .int x4.2.2.2.2.2.2.2.2.2.2.2.2.2.2.2.2.2.2.1, .int x4.2.2.2.2.2.2.2.2.2.2.2.2.2.2.2.2.2.2.2.1, .int x4.2.2.2.2.2.2.2.2.2.2.2.2.2.2.2.2.2.2.2.2.1, .int x4.2.2.2.2.2.2.2.2.2.2.2.2.2.2.2.2.2.2.2.2.2.1, .int x4.2.2.2.2.2.2.2.2.2.2.2.2.2.2.2.2.2.2.2.2.2.2.1])), ((g4 20), .inr (5, [.ref (g4 21)])), ((g4 21), .inl (0, 21, .inl x4.2.2.2.2.2.2.2.2.2.2.2.2.2.2.2.2.2.2.2.2.2.2.2.1)), ((g4 22), .inr (6, [.ref (g4 23)])), ((g4 23), .inl (0, 21, .inl x4.2.2.2.2.2.2.2.2.2.2.2.2.2.2.2.2.2.2.2.2.2.2.2.2.1)), ((g4 24), .inr (6, [.ref (g4 25)])), ((g4 25), .inl (0, 21, .inl x4.2.2.2.2.2.2.2.2.2.2.2.2.2.2.2.2.2.2.2.2.2.2.2.2.2)), (r8, .inr (9, [.ref (g12 0), .ref (g12 4), .ref (g12 8), .ref (g12 11), .ref (g12 12), .int (0 : Int32)])), ((g12 0), .inl (4, 3, .inr (.inr (.inr (.inr (va_up (va_up (va_up (fun _ => none) 0 (some (g12 1))) 1 (some (g12 2))) 2 (some (g12 3)))))))), ((g12 1), .inl (0, 6144, .inl x12.1)), ((g12 2), .inl (0, 6144, .inl x12.2.1)), ((g12 3), .inl (0, 6144, .inl x12.2.2.1)), ((g12 4), .inl (4, 3, .inr (.inr (.inr (.inr (va_up (va_up (va_up (fun _ => none) 0 (some (g12 5))) 1 (some (g12 6))) 2 (some (g12 7)))))))), ((g12 5), .inl (0, 21, .inl x12.2.2.2.1)), ((g12 6), .inl (0, 21, .inl x12.2.2.2.2.1)), ((g12 7), .inl (0, 21, .inl x12.2.2.2.2.2.1)), ((g12 8), .inl (4, 2, .inr (.inr (.inr (.inr (va_up (va_up (fun _ => none) 0 (some (g12 9))) 1 (some (g12 10)))))))), ((g12 9), .inl (0, 21, .inl x12.2.2.2.2.2.2.1)), ((g12 10), .inl (0, 21, .inl x12.2.2.2.2.2.2.2.1)), ((g12 11), .inl (0, 6, .inl x12.2.2.2.2.2.2.2.2.1)), ((g12 12), .inl (0, 441, .inl x12.2.2.2.2.2.2.2.2.2))]) (st1 := fun x20 g20 => [.ref r16]) (ws1 := fun x20 g20 => [(r0, .inr (7, [.ref (g4 0), .ref (g4 7), .ref (g4 14), .ref (g4 19), .ref (g4 20), .ref (g4 22), .ref (g4 24)])), ((g4 0), .inl (1, 3, .inr (.inr (.inr (.inr (va_up (va_up (va_up (fun _ => none) (0 : Int32).toNatClampNeg (some (g4 1))) (1 : Int32).toNatClampNeg (some (g4 3))) (2 : Int32).toNatClampNeg (some (g4 5)))))))), ((g4 1), .inr (4, [.ref (g4 2), .int x4.1])), ((g4 2), .inl (0, 2646, .inl x4.2.1)), ((g4 3), .inr (4, [.ref (g4 4), .int x4.2.2.1])), ((g4 4), .inl (0, 2646, .inl x4.2.2.2.1)), ((g4 5), .inr (4, [.ref (g4 6), .int x4.2.2.2.2.1])), ((g4 6), .inl (0, 2646, .inl x4.2.2.2.2.2.1)), ((g4 7), .inl (2, 3, .inr (.inr (.inr (.inr (va_up (va_up (va_up (fun _ => none) (0 : Int32).toNatClampNeg (some (g4 8))) (1 : Int32).toNatClampNeg (some (g4 10))) (2 : Int32).toNatClampNeg (some (g4 12)))))))), ((g4 8), .inr (3, [.int x4.2.2.2.2.2.2.1, .ref (g4 9), .int x4.2.2.2.2.2.2.2.1])), ((g4 9), .inl (0, 21, .inl x4.2.2.2.2.2.2.2.2.1)), ((g4 10), .inr (3, [.int x4.2.2.2.2.2.2.2.2.2.1, .ref (g4 11), .int x4.2.2.2.2.2.2.2.2.2.2.1])), ((g4 11), .inl (0, 21, .inl x4.2.2.2.2.2.2.2.2.2.2.2.1)), ((g4 12), .inr (3, [.int x4.2.2.2.2.2.2.2.2.2.2.2.2.1, .ref (g4 13), .int x4.2.2.2.2.2.2.2.2.2.2.2.2.2.1])), ((g4 13), .inl (0, 21, .inl x4.2.2.2.2.2.2.2.2.2.2.2.2.2.2.1)), ((g4 14), .inl (3, 2, .inr (.inr (.inr (.inr (va_up (va_up (fun _ => none) (0 : Int32).toNatClampNeg (some (g4 15))) (1 : Int32).toNatClampNeg (some (g4 17)))))))), ((g4 15), .inr (6, [.ref (g4 16)])), ((g4 16), .inl (0, 21, .inl x4.2.2.2.2.2.2.2.2.2.2.2.2.2.2.2.1)), ((g4 17), .inr (6, [.ref (g4 18)])), ((g4 18), .inl (0, 21, .inl x4.2.2.2.2.2.2.2.2.2.2.2.2.2.2.2.2.1)), ((g4 19), .inr (2, [.int x4.2.2.2.2.2.2.2.2.2.2.2.2.2.2.2.2.2.1, .int x4.2.2.2.2.2.2.2.2.2.2.2.2.2.2.2.2.2.2.1, .int x4.2.2.2.2.2.2.2.2.2.2.2.2.2.2.2.2.2.2.2.1, .int x4.2.2.2.2.2.2.2.2.2.2.2.2.2.2.2.2.2.2.2.2.1, .int x4.2.2.2.2.2.2.2.2.2.2.2.2.2.2.2.2.2.2.2.2.2.1, .int x4.2.2.2.2.2.2.2.2.2.2.2.2.2.2.2.2.2.2.2.2.2.2.1])), ((g4 20), .inr (5, [.ref (g4 21)])), ((g4 21), .inl (0, 21, .inl x4.2.2.2.2.2.2.2.2.2.2.2.2.2.2.2.2.2.2.2.2.2.2.2.1)), ((g4 22), .inr (6, [.ref (g4 23)])), ((g4 23), .inl (0, 21, .inl x4.2.2.2.2.2.2.2.2.2.2.2.2.2.2.2.2.2.2.2.2.2.2.2.2.1)), ((g4 24), .inr (6, [.ref (g4 25)])), ((g4 25), .inl (0, 21, .inl x4.2.2.2.2.2.2.2.2.2.2.2.2.2.2.2.2.2.2.2.2.2.2.2.2.2)), (r8, .inr (9, [.ref (g12 0), .ref (g12 4), .ref (g12 8), .ref (g12 11), .ref (g12 12), .int (0 : Int32)])), ((g12 0), .inl (4, 3, .inr (.inr (.inr (.inr (va_up (va_up (va_up (fun _ => none) 0 (some (g12 1))) 1 (some (g12 2))) 2 (some (g12 3)))))))), ((g12 1), .inl (0, 6144, .inl x12.1)), ((g12 2), .inl (0, 6144, .inl x12.2.1)), ((g12 3), .inl (0, 6144, .inl x12.2.2.1)), ((g12 4), .inl (4, 3, .inr (.inr (.inr (.inr (va_up (va_up (va_up (fun _ => none) 0 (some (g12 5))) 1 (some (g12 6))) 2 (some (g12 7)))))))), ((g12 5), .inl (0, 21, .inl x12.2.2.2.1)), ((g12 6), .inl (0, 21, .inl x12.2.2.2.2.1)), ((g12 7), .inl (0, 21, .inl x12.2.2.2.2.2.1)), ((g12 8), .inl (4, 2, .inr (.inr (.inr (.inr (va_up (va_up (fun _ => none) 0 (some (g12 9))) 1 (some (g12 10)))))))), ((g12 9), .inl (0, 21, .inl x12.2.2.2.2.2.2.1)), ((g12 10), .inl (0, 21, .inl x12.2.2.2.2.2.2.2.1)), ((g12 11), .inl (0, 6, .inl x12.2.2.2.2.2.2.2.2.1)), ((g12 12), .inl (0, 441, .inl x12.2.2.2.2.2.2.2.2.2)), (r16, .inr (8, [.long (0 : Int64), .null]))]) (As := [.ref r16]) [41] [0, 1, 2, 3, 4, 5, 6, 7, 8, 9, 10, 11, 12, 13, 14, 15, 16, 17, 18, 19, 20, 21, 22, 23, 24, 25, 26, 27, 28, 29, 30, 31, 32, 33, 34, 35, 36, 37, 38, 39, 40] (fun _ => runIN dL_law_20 mi_X6_init rfl im_X6_init mn_L_154 (by omega) rfl (Nat.le_of_ble_eq_true rfl) rfl) (fun x9 h9 => ok_X6_init h9) rfl rfl rfl rfl rfl (by decide +kernel) (by omega) (by omega) (fun _ _ => rfl) (fun _ _ => rfl) (fun x20 g20 => ?_)
  refine aw_astore_n (q := 24) (lv' := [(3, .ref r16), (2, .ref r8), (1, .ref r0), (0, .ref b)]) dL_law_23 rfl (by decide) rfl ?_
  refine aw_iconst (q := 25) (v := 0) dL_law_24 rfl (by decide) ?_
  refine aw_istore (q := 27) (lv' := [(4, .int (0 : Int32)), (3, .ref r16), (2, .ref r8), (1, .ref r0), (0, .ref b)]) dL_law_25 rfl (by decide) rfl ?_
  refine aw_locals (lv' := [(0, .ref b), (1, .ref r0), (2, .ref r8), (3, .ref r16), (4, .int (0 : Int32))]) [4, 3, 2, 1, 0] rfl ?_
  refine aw_world (ws' := (WA (rcons r0 g4) (rcons r8 g12) r16 (S0of x4) (M0of x12) 0 .null)) [0, 1, 2, 3, 4, 5, 6, 7, 8, 9, 10, 11, 12, 13, 14, 15, 16, 17, 18, 19, 20, 21, 22, 23, 24, 25, 26, 27, 28, 29, 30, 31, 32, 33, 34, 35, 36, 37, 38, 39, 40, 41] rfl (by simp only [WA, WX, WM, rf3_3, rf3_2]; rfl) ?_
  refine aw_room (kc' := 100 * 300) (ks' := 100 * 17000) (by omega) (by omega) ?_
  exact tlaw 100 _ _ _ _ _

end MG_46centry
section MG_46estart
/-! THE CLAIM OUT OF ONE WALK OF THE LAW'S BODY. Your part is whole_start (and what it stands on); all else here is the same for every law, but numbers. -/
def R_law : String := "SumlarderLaw"
def lw_P (b : Addr) (xs : List Int32) (args : Array Value) (s : State) : Prop := args = #[.ref b] ∧ s.IntsAt b xs ∧ xs.length ≤ 384 ∧ (Jvm.Cond.and given_1 narrow_1).before args s = true
def lw_Q (_ : Array Value) (s : State) (o : Outcome) (t : State) : Prop := o = .returned (some (.int 1)) ∧ Framed s o t [] 600128 7301098
def lw_Z (below : List Frame) (a : Array Value) (s : State) : State → Prop := fun t => ∃ o, t.status = .running ∧ Ended t below o ∧ lw_Q a s o t
/-- the law's own end, with 1 on the stack, nothing written that was there before, its room as the claim has it -/
theorem lw_ret {p : Program} {l : Launch} {e : Env} {s : State} {m : MethodId} {below : List Frame} {meth : Method} {c : Code} {b : Nat} (hx : p.tables.exec = Jvm.exec) (hb : c.code = code) (hr : meth.sig.returnType = ret) (hlocks : meth.locks = false) {pc : Nat} {H : Heap} {ls : Array Slot} (hdg : decode code pc = .ok (.ireturn, 1)) : W p l e room_1 s m #[Value.ref b] below meth c H [] 600128 7301098 (lw_Z below #[Value.ref b] s) (F0 m pc ls [.int 1]) := by
  intro T hT X
  obtain ⟨fs, hret, hrun, hended, hW, hframe⟩ := X.leave (v := some (.int 1)) (hlocks := hlocks) (fun h => by rw [hr] at h; cases h)
  have hmeth' : T.vm.method? m = some meth := X.method'
  refine ⟨T.setFrames fs, ?_, .returned (some (.int 1)), hrun, hended, rfl, ⟨_, rfl⟩, hW, hframe⟩
  jvm_step X.here [X.here.top, hx, hb, hdg, hmeth', hr, ret, narrow_b1]
  (try refine ⟨rfl, ?_⟩); (try refine ⟨rfl, ?_⟩)
  first | (intro acts; rw [hret _ acts rfl rfl rfl]) | rw [hret _ _ rfl rfl rfl]
  exact Steps.refl _
/-- what holds at the law's entry: the machine, the code, the tables' words (any of lw_tbl by 'hts w (by decide +kernel)'), the script of L ints xs at the cell b, what the Statement gives of the start (any of its parts by flat_of_before) -/
def lw_At (p : Program) (s : State) (m : MethodId) (meth : Method) (c : Code) (b L : Nat) (xs : Nat → Int32) : Prop :=
  p.tables.exec = Jvm.exec ∧ c.code = code ∧ meth.sig.returnType = ret ∧ c.maxLocals = 7 ∧ s.vm.findClass R_law = some m.cls ∧ (∀ w ∈ lw_tbl, w.before #[Value.ref b] s = true) ∧ va_X b L xs s s.heap ∧ b < s.heap.size ∧ meth.locks = false ∧ (Jvm.Cond.and given_1 narrow_1).before #[Value.ref b] s = true
set_option maxHeartbeats 4000000 in
theorem start_of {p : Program} {e : Env} {s : State} {m : MethodId} {below : List Frame} {meth : Method} {c : Code} (l : Launch) (hflags : l.flags = flags0) {b L : Nat} {xs : Nat → Int32} (hp : ∃ N K : Nat, K ≤ 100 ∧ flaw0 N K L xs = some 1) (C0 : lw_At p s m meth c b L xs) : W p l e room_1 s m #[Value.ref b] below meth c s.heap [] 0 0 (lw_Z below #[Value.ref b] s) (entryFrame m ([Value.ref b] : List Value).toArray 7) := by
  obtain ⟨hx, hb, hr, hml, hown, hts, hX, hbl, hlocks, hgv⟩ := C0
  obtain ⟨N, K, hK9, hp⟩ := hp
  obtain ⟨D, TY, hK, hZ⟩ := z_start hts hgv
  have hst : l.stackTraces = false := by unfold Launch.stackTraces; rw [hflags]; decide
  have hAn : ∀ a : Nat, a < s.heap.size → ¬ (va_A (re TY []) s.heap.size) a := by
    intro a ha h
    rcases h with ⟨k, e, h⟩ | h
    · simp [re] at h
    · omega
  have hl := lv_entry ([.ref b]) (n := 7) (Nat.le_of_ble_eq_true rfl)
  rw [lg_entry_eq]
  have K0 := tlaw0 (nm := meth.name) (hh := c.exceptionTable.toList.map fun h => (h.startPc, h.endPc, h.handlerPc, h.catchType)) (N := N) (K := K) (b := b) (L := L) (xs := xs) 1 hp p l e room_1 s m #[Value.ref b] below meth c D TY (va_A (re TY []) s.heap.size) s.heap [] 0 0 600128 7301098 _
    ⟨hx, hb, hml, hr, hown, fun w h => hts w (List.mem_filter.mp h).1, hlocks, rfl, (table_eq _).symm, hst, ⟨hX, hbl, hAn b hbl⟩, fun q h => Or.inr h⟩ hK (hZ _ hAn) (by show _ ≤ 2048; omega) (by show _ ≤ 84000; omega) (Nat.le_refl _) (Nat.le_refl _) (by omega) (by omega) (fun k q h => by simp [re] at h) ⟨fun i j p q h => by simp [re] at h, fun k q h => by simp [re] at h⟩ va_S.rf hl
  intro T hT X
  obtain ⟨t, a1, o, b1, b2, b3⟩ := K0 T hT X
  refine ⟨t, a1, o, b1, b2, ?_⟩
  rcases b3 with ⟨⟨⟨v, w, hv, hp9, -, -⟩, -⟩, Ls, hE, hL⟩ | ⟨q, ho, E, ce, Ls, ⟨⟨w, hp9, -⟩, -⟩, -⟩
  · subst hv
    have e1 : v = some (.int 1) := Sum.inl.inj hp9
    subst e1
    obtain ⟨f1, f2, g1, g2, g3, g4, g5, g6⟩ := hE
    refine ⟨rfl, f1, f2, g1, g2, g3, g4, g5, fun a cl ha => ?_⟩
    obtain ⟨c', k1, k2, k3, k4⟩ := g6 a cl ha
    refine ⟨c', k1, k2, k3, fun i _ => k4 i (fun hm => ?_)⟩
    exact hAn a (Array.getElem?_eq_some_iff.mp ha).1 (hL _ hm)
  · cases hp9

end MG_46estart
