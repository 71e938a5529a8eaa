set_option maxHeartbeats 4000000 in
set_option maxRecDepth 100000 in
theorem t_M_step_279 {p : Program} {l : Launch} {e : Env} {s0 : State} {m : MethodId} {args : Array Value} {below : List Frame} {meth : Method} {c : Code} {D : va_G} {A : Nat → Prop} {dI : Nat → ClassId} {ad : Nat → Nat} (X : CX p s0 m args meth c D vwCl (tyM dI) [] A prog_6_method_22_code 11 none (Cond.code y_M_step prog_6_method_22_code 11 none :: WS) R_M) (x5 : Int32) (x6 : Int32) (x8 : Int32) (y1 : Int32) (s : eS) (ls : Array Slot)  (hl : lv_has ls 11 [(5, .int x5), (6, .int x6), (8, .int x8)]) : GG p l e rm_M_step s0 m args below meth c D vwCl (tyM dI) A (wM dI ad) 0 0 (QM below args s0 D vwCl (tyM dI) A (wM dI ad) rvV) (f_M_step_279 x5 x6 x8 y1 s) (F0 m 279 ls [.int y1, .ref (ad 0)]) s := by
  unfold f_M_step_279
  refine gg_iload X 279 d_M_step_279 (lv_at hl 0 rfl) ?_
  refine gg_iload X 281 d_M_step_281 (lv_at hl 1 rfl) ?_
  refine gg_iload X 283 d_M_step_283 (lv_at hl 2 rfl) ?_
  refine gg_iadd X 285 d_M_step_285 ?_
  refine gg_callV X 286 nwOk_M [.int y1, .int x5, .int (x6 + x8)] [] (fun _ _ h sz => M_M_access l D dI ad _ y1 x5 (x6 + x8)  h sz) (cwV 3 X.1.2.2.2.2 (gwV w_547 w_549 ws_M_access w_5 w_550) rfl rfl rfl (by decide +kernel) ⟨by decide, by decide⟩) (he_M_Main) rfl rfl hl.1 rfl (Nat.le_of_ble_eq_true rfl) ⟨Nat.zero_le _, Nat.zero_le _⟩ d_M_step_286 (fun r1 s2 ho3 => ?_)
  refine gg_show_v ?_
  refine gg_goto X 289 400 d_M_step_289 rfl ?_
  exact gg_vret X 400 d_M_step_400
set_option maxHeartbeats 4000000 in
set_option maxRecDepth 100000 in
theorem t_M_step_267 {p : Program} {l : Launch} {e : Env} {s0 : State} {m : MethodId} {args : Array Value} {below : List Frame} {meth : Method} {c : Code} {D : va_G} {A : Nat → Prop} {dI : Nat → ClassId} {ad : Nat → Nat} (X : CX p s0 m args meth c D vwCl (tyM dI) [] A prog_6_method_22_code 11 none (Cond.code y_M_step prog_6_method_22_code 11 none :: WS) R_M) (x3 : Int32) (x5 : Int32) (x6 : Int32) (x8 : Int32) (s : eS) (ls : Array Slot)  (hl : lv_has ls 11 [(0, .ref (ad 0)), (3, .int x3), (5, .int x5), (6, .int x6), (8, .int x8)]) : GG p l e rm_M_step s0 m args below meth c D vwCl (tyM dI) A (wM dI ad) 0 0 (QM below args s0 D vwCl (tyM dI) A (wM dI ad) rvV) (f_M_step_267 x3 x5 x6 x8 s) (F0 m 267 ls []) s := by
  unfold f_M_step_267
  refine gg_aload_n X 267 d_M_step_267 rfl (lv_at hl 0 rfl) ?_
  refine gg_iload_n X 268 d_M_step_268 rfl (lv_at hl 1 rfl) ?_
  refine gg_bipush X 269 (7 : Int32) d_M_step_269 (by decide) ?_
  refine gg_icmp_ne X 271 278 d_M_step_271 rfl (fun _ => ?_) (fun _ => ?_)
  · refine gg_iconst X 278 (0 : Int32) d_M_step_278 (by decide) ?_
    exact t_M_step_279 X x5 x6 x8 (0 : Int32) s _  (lv_sub hl [2, 3, 4] rfl)
  · refine gg_iconst X 274 (1 : Int32) d_M_step_274 (by decide) ?_
    refine gg_goto X 275 279 d_M_step_275 rfl ?_
    exact t_M_step_279 X x5 x6 x8 (1 : Int32) s _  (lv_sub hl [2, 3, 4] rfl)
set_option maxHeartbeats 4000000 in
set_option maxRecDepth 100000 in
theorem t_M_step_376 {p : Program} {l : Launch} {e : Env} {s0 : State} {m : MethodId} {args : Array Value} {below : List Frame} {meth : Method} {c : Code} {D : va_G} {A : Nat → Prop} {dI : Nat → ClassId} {ad : Nat → Nat} (X : CX p s0 m args meth c D vwCl (tyM dI) [] A prog_6_method_22_code 11 none (Cond.code y_M_step prog_6_method_22_code 11 none :: WS) R_M) (y1 : Int32) (y2 : Int32) (s : eS) (ls : Array Slot)  (hl : lv_has ls 11 []) : GG p l e rm_M_step s0 m args below meth c D vwCl (tyM dI) A (wM dI ad) 0 0 (QM below args s0 D vwCl (tyM dI) A (wM dI ad) rvV) (f_M_step_376 y1 y2 s) (F0 m 376 ls [.int y2, .int y1, .ref (ad 13)]) s := by
  unfold f_M_step_376
  refine gg_ast_A_place X 376 d_M_step_376 (fun s1 => ?_)
  refine gg_goto X 377 400 d_M_step_377 rfl ?_
  exact gg_vret X 400 d_M_step_400
set_option maxHeartbeats 4000000 in
set_option maxRecDepth 100000 in
theorem t_M_step_349 {p : Program} {l : Launch} {e : Env} {s0 : State} {m : MethodId} {args : Array Value} {below : List Frame} {meth : Method} {c : Code} {D : va_G} {A : Nat → Prop} {dI : Nat → ClassId} {ad : Nat → Nat} (X : CX p s0 m args meth c D vwCl (tyM dI) [] A prog_6_method_22_code 11 none (Cond.code y_M_step prog_6_method_22_code 11 none :: WS) R_M) (x1 : Int32) (x8 : Int32) (y0 : Int32) (s : eS) (ls : Array Slot)  (hl : lv_has ls 11 [(0, .ref (ad 0)), (1, .int x1), (8, .int x8)]) : GG p l e rm_M_step s0 m args below meth c D vwCl (tyM dI) A (wM dI ad) 0 0 (QM below args s0 D vwCl (tyM dI) A (wM dI ad) rvV) (f_M_step_349 x1 x8 y0 s) (F0 m 349 ls [.int y0]) s := by
  unfold f_M_step_349
  refine gg_istore X 349 (fun v1 => [(10, .int v1), (0, .ref (ad 0)), (1, .int x1), (8, .int x8)]) d_M_step_349 hl (by decide) (fun _ => rfl) (fun v1 ls hl => ?_)
  refine gg_aload_n X 351 d_M_step_351 rfl (lv_at hl 1 rfl) ?_
  refine gg_get_M_place X 352 (Or.inl (List.mem_cons_of_mem _ w_371)) d_M_step_352 ?_
  refine gg_aload_n X 355 d_M_step_355 rfl (lv_at hl 1 rfl) ?_
  refine gg_get_M_who X 356 (Or.inl (List.mem_cons_of_mem _ w_372)) d_M_step_356 ?_
  refine gg_iload X 359 d_M_step_359 (lv_at hl 0 rfl) ?_
  refine gg_if_eq X 361 373 d_M_step_361 rfl (fun _ => ?_) (fun _ => ?_)
  · refine gg_iload_n X 373 d_M_step_373 rfl (lv_at hl 2 rfl) ?_
    refine gg_iconst X 374 (1 : Int32) d_M_step_374 (by decide) ?_
    refine gg_iadd X 375 d_M_step_375 ?_
    exact t_M_step_376 X (s 13 1) (x1 + (1 : Int32)) s _  (lv_sub hl [] rfl)
  · refine gg_iload_n X 364 d_M_step_364 rfl (lv_at hl 2 rfl) ?_
    refine gg_iconst X 365 (1 : Int32) d_M_step_365 (by decide) ?_
    refine gg_iadd X 366 d_M_step_366 ?_
    refine gg_iload X 367 d_M_step_367 (lv_at hl 3 rfl) ?_
    refine gg_iadd X 369 d_M_step_369 ?_
    refine gg_goto X 370 376 d_M_step_370 rfl ?_
    exact t_M_step_376 X (s 13 1) ((x1 + (1 : Int32)) + x8) s _  (lv_sub hl [] rfl)
set_option maxHeartbeats 4000000 in
set_option maxRecDepth 100000 in
theorem t_M_step_304 {p : Program} {l : Launch} {e : Env} {s0 : State} {m : MethodId} {args : Array Value} {below : List Frame} {meth : Method} {c : Code} {D : va_G} {A : Nat → Prop} {dI : Nat → ClassId} {ad : Nat → Nat} (X : CX p s0 m args meth c D vwCl (tyM dI) [] A prog_6_method_22_code 11 none (Cond.code y_M_step prog_6_method_22_code 11 none :: WS) R_M) (x1 : Int32) (x3 : Int32) (x4 : Int32) (x5 : Int32) (x6 : Int32) (x8 : Int32) (s : eS) (ls : Array Slot)  (hl : lv_has ls 11 [(0, .ref (ad 0)), (1, .int x1), (3, .int x3), (4, .int x4), (5, .int x5), (6, .int x6), (8, .int x8)]) : GG p l e rm_M_step s0 m args below meth c D vwCl (tyM dI) A (wM dI ad) 0 0 (QM below args s0 D vwCl (tyM dI) A (wM dI ad) rvV) (f_M_step_304 x1 x3 x4 x5 x6 x8 s) (F0 m 304 ls []) s := by
  unfold f_M_step_304
  refine gg_aload_n X 304 d_M_step_304 rfl (lv_at hl 0 rfl) ?_
  refine gg_get_M_reg X 305 (Or.inl (List.mem_cons_of_mem _ w_370)) d_M_step_305 ?_
  refine gg_iload X 308 d_M_step_308 (lv_at hl 3 rfl) ?_
  refine gg_iload X 310 d_M_step_310 (lv_at hl 4 rfl) ?_
  refine gg_iadd X 312 d_M_step_312 ?_
  refine gg_ald_A_reg X 313 d_M_step_313 ?_
  refine gg_istore X 314 (fun v1 => [(9, .int v1), (0, .ref (ad 0)), (1, .int x1), (3, .int x3), (4, .int x4), (5, .int x5), (6, .int x6), (8, .int x8)]) d_M_step_314 hl (by decide) (fun _ => rfl) (fun v1 ls hl => ?_)
  refine gg_iload_n X 316 d_M_step_316 rfl (lv_at hl 3 rfl) ?_
  refine gg_bipush X 317 (9 : Int32) d_M_step_317 (by decide) ?_
  refine gg_icmp_ne X 319 337 d_M_step_319 rfl (fun _ => ?_) (fun _ => ?_)
  · refine gg_iload X 337 d_M_step_337 (lv_at hl 0 rfl) ?_
    refine gg_iload X 339 d_M_step_339 (lv_at hl 6 rfl) ?_
    refine gg_icmp_ge X 341 348 d_M_step_341 rfl (fun _ => ?_) (fun _ => ?_)
    · refine gg_iconst X 348 (0 : Int32) d_M_step_348 (by decide) ?_
      exact t_M_step_349 X x1 x8 (0 : Int32) s _  (lv_sub hl [1, 2, 7] rfl)
    · refine gg_iconst X 344 (1 : Int32) d_M_step_344 (by decide) ?_
      refine gg_goto X 345 349 d_M_step_345 rfl ?_
      exact t_M_step_349 X x1 x8 (1 : Int32) s _  (lv_sub hl [1, 2, 7] rfl)
  · refine gg_iload X 322 d_M_step_322 (lv_at hl 0 rfl) ?_
    refine gg_iload X 324 d_M_step_324 (lv_at hl 6 rfl) ?_
    refine gg_icmp_ne X 326 333 d_M_step_326 rfl (fun _ => ?_) (fun _ => ?_)
    · refine gg_iconst X 333 (0 : Int32) d_M_step_333 (by decide) ?_
      refine gg_goto X 334 349 d_M_step_334 rfl ?_
      exact t_M_step_349 X x1 x8 (0 : Int32) s _  (lv_sub hl [1, 2, 7] rfl)
    · refine gg_iconst X 329 (1 : Int32) d_M_step_329 (by decide) ?_
      refine gg_goto X 330 349 d_M_step_330 rfl ?_
      exact t_M_step_349 X x1 x8 (1 : Int32) s _  (lv_sub hl [1, 2, 7] rfl)
set_option maxHeartbeats 4000000 in
set_option maxRecDepth 100000 in
theorem t_M_step_255 {p : Program} {l : Launch} {e : Env} {s0 : State} {m : MethodId} {args : Array Value} {below : List Frame} {meth : Method} {c : Code} {D : va_G} {A : Nat → Prop} {dI : Nat → ClassId} {ad : Nat → Nat} (X : CX p s0 m args meth c D vwCl (tyM dI) [] A prog_6_method_22_code 11 none (Cond.code y_M_step prog_6_method_22_code 11 none :: WS) R_M) (x1 : Int32) (x3 : Int32) (x4 : Int32) (x5 : Int32) (x6 : Int32) (x8 : Int32) (s : eS) (ls : Array Slot)  (hl : lv_has ls 11 [(0, .ref (ad 0)), (1, .int x1), (3, .int x3), (4, .int x4), (5, .int x5), (6, .int x6), (8, .int x8)]) : GG p l e rm_M_step s0 m args below meth c D vwCl (tyM dI) A (wM dI ad) 0 0 (QM below args s0 D vwCl (tyM dI) A (wM dI ad) rvV) (f_M_step_255 x1 x3 x4 x5 x6 x8 s) (F0 m 255 ls []) s := by
  unfold f_M_step_255
  refine gg_iload_n X 255 d_M_step_255 rfl (lv_at hl 2 rfl) ?_
  refine gg_bipush X 256 (7 : Int32) d_M_step_256 (by decide) ?_
  refine gg_icmp_eq X 258 267 d_M_step_258 rfl (fun _ => ?_) (fun _ => ?_)
  · exact t_M_step_267 X x3 x5 x6 x8 s _  (lv_sub hl [0, 2, 4, 5, 6] rfl)
  · refine gg_iload_n X 261 d_M_step_261 rfl (lv_at hl 2 rfl) ?_
    refine gg_bipush X 262 (8 : Int32) d_M_step_262 (by decide) ?_
    refine gg_icmp_ne X 264 292 d_M_step_264 rfl (fun _ => ?_) (fun _ => ?_)
    · refine gg_iload_n X 292 d_M_step_292 rfl (lv_at hl 2 rfl) ?_
      refine gg_bipush X 293 (9 : Int32) d_M_step_293 (by decide) ?_
      refine gg_icmp_eq X 295 304 d_M_step_295 rfl (fun _ => ?_) (fun _ => ?_)
      · exact t_M_step_304 X x1 x3 x4 x5 x6 x8 s _  (lv_sub hl [0, 1, 2, 3, 4, 5, 6] rfl)
      · refine gg_iload_n X 298 d_M_step_298 rfl (lv_at hl 2 rfl) ?_
        refine gg_bipush X 299 (10 : Int32) d_M_step_299 (by decide) ?_
        refine gg_icmp_ne X 301 380 d_M_step_301 rfl (fun _ => ?_) (fun _ => ?_)
        · refine gg_iload_n X 380 d_M_step_380 rfl (lv_at hl 2 rfl) ?_
          refine gg_bipush X 381 (11 : Int32) d_M_step_381 (by decide) ?_
          refine gg_icmp_ne X 383 395 d_M_step_383 rfl (fun _ => ?_) (fun _ => ?_)
          · refine gg_aload_n X 395 d_M_step_395 rfl (lv_at hl 0 rfl) ?_
            refine gg_iconst X 396 (4 : Int32) d_M_step_396 (by decide) ?_
            refine gg_callV X 397 nwOk_M [.int (4 : Int32)] [] (fun _ _ h sz => M_M_fault l D dI ad _ (4 : Int32)  h sz) (cwV 1 X.1.2.2.2.2 (gwV w_539 w_541 ws_M_fault w_5 w_542) rfl rfl rfl (by decide +kernel) ⟨by decide, by decide⟩) (he_M_Main) rfl rfl hl.1 rfl (Nat.le_of_ble_eq_true rfl) ⟨Nat.zero_le _, Nat.zero_le _⟩ d_M_step_397 (fun r1 s2 ho3 => ?_)
            refine gg_show_v ?_
            exact gg_vret X 400 d_M_step_400
          · refine gg_aload_n X 386 d_M_step_386 rfl (lv_at hl 0 rfl) ?_
            refine gg_iload X 387 d_M_step_387 (lv_at hl 6 rfl) ?_
            refine gg_callV X 389 nwOk_M [.int x8] [] (fun _ _ h sz => M_M_ask l D dI ad _ x8  h sz) (cwV 1 X.1.2.2.2.2 (gwV w_551 w_553 ws_M_ask w_5 w_554) rfl rfl rfl (by decide +kernel) ⟨by decide, by decide⟩) (he_M_Main) rfl rfl hl.1 rfl (Nat.le_of_ble_eq_true rfl) ⟨Nat.zero_le _, Nat.zero_le _⟩ d_M_step_389 (fun r4 s5 ho6 => ?_)
            refine gg_show_v ?_
            refine gg_goto X 392 400 d_M_step_392 rfl ?_
            exact gg_vret X 400 d_M_step_400
        · exact t_M_step_304 X x1 x3 x4 x5 x6 x8 s _  (lv_sub hl [0, 1, 2, 3, 4, 5, 6] rfl)
    · exact t_M_step_267 X x3 x5 x6 x8 s _  (lv_sub hl [0, 2, 4, 5, 6] rfl)
set_option maxHeartbeats 4000000 in
set_option maxRecDepth 100000 in
theorem t_M_step_230 {p : Program} {l : Launch} {e : Env} {s0 : State} {m : MethodId} {args : Array Value} {below : List Frame} {meth : Method} {c : Code} {D : va_G} {A : Nat → Prop} {dI : Nat → ClassId} {ad : Nat → Nat} (X : CX p s0 m args meth c D vwCl (tyM dI) [] A prog_6_method_22_code 11 none (Cond.code y_M_step prog_6_method_22_code 11 none :: WS) R_M) (x1 : Int32) (x5 : Int32) (y0 : Int32) (s : eS) (ls : Array Slot)  (hl : lv_has ls 11 [(0, .ref (ad 0)), (1, .int x1), (5, .int x5)]) : GG p l e rm_M_step s0 m args below meth c D vwCl (tyM dI) A (wM dI ad) 0 0 (QM below args s0 D vwCl (tyM dI) A (wM dI ad) rvV) (f_M_step_230 x1 x5 y0 s) (F0 m 230 ls [.int y0]) s := by
  unfold f_M_step_230
  refine gg_istore X 230 (fun v1 => [(9, .int v1), (0, .ref (ad 0)), (1, .int x1), (5, .int x5)]) d_M_step_230 hl (by decide) (fun _ => rfl) (fun v1 ls hl => ?_)
  refine gg_aload_n X 232 d_M_step_232 rfl (lv_at hl 1 rfl) ?_
  refine gg_iload X 233 d_M_step_233 (lv_at hl 3 rfl) ?_
  refine gg_iload X 235 d_M_step_235 (lv_at hl 0 rfl) ?_
  refine gg_callV X 237 nwOk_M [.int x5, .int v1] [] (fun _ _ h sz => M_M_put l D dI ad _ x5 v1  h sz) (cwV 2 X.1.2.2.2.2 (gwV w_543 w_545 ws_M_put w_5 w_546) rfl rfl rfl (by decide +kernel) ⟨by decide, by decide⟩) (he_M_Main) rfl rfl hl.1 rfl (Nat.le_of_ble_eq_true rfl) ⟨Nat.zero_le _, Nat.zero_le _⟩ d_M_step_237 (fun r2 s3 ho4 => ?_)
  refine gg_show_v ?_
  refine gg_aload_n X 240 d_M_step_240 rfl (lv_at hl 1 rfl) ?_
  refine gg_get_M_place X 241 (Or.inl (List.mem_cons_of_mem _ w_371)) d_M_step_241 ?_
  refine gg_aload_n X 244 d_M_step_244 rfl (lv_at hl 1 rfl) ?_
  refine gg_get_M_who X 245 (Or.inl (List.mem_cons_of_mem _ w_372)) d_M_step_245 ?_
  refine gg_iload_n X 248 d_M_step_248 rfl (lv_at hl 2 rfl) ?_
  refine gg_iconst X 249 (1 : Int32) d_M_step_249 (by decide) ?_
  refine gg_iadd X 250 d_M_step_250 ?_
  refine gg_ast_A_place X 251 d_M_step_251 (fun s5 => ?_)
  refine gg_goto X 252 400 d_M_step_252 rfl ?_
  exact gg_vret X 400 d_M_step_400
set_option maxHeartbeats 4000000 in
set_option maxRecDepth 100000 in
theorem t_M_step_55 {p : Program} {l : Launch} {e : Env} {s0 : State} {m : MethodId} {args : Array Value} {below : List Frame} {meth : Method} {c : Code} {D : va_G} {A : Nat → Prop} {dI : Nat → ClassId} {ad : Nat → Nat} (X : CX p s0 m args meth c D vwCl (tyM dI) [] A prog_6_method_22_code 11 none (Cond.code y_M_step prog_6_method_22_code 11 none :: WS) R_M)  (s : eS) (ls : Array Slot)  (hl : lv_has ls 11 [(0, .ref (ad 0))]) : GG p l e rm_M_step s0 m args below meth c D vwCl (tyM dI) A (wM dI ad) 0 0 (QM below args s0 D vwCl (tyM dI) A (wM dI ad) rvV) (f_M_step_55 s) (F0 m 55 ls []) s := by
  unfold f_M_step_55
  refine gg_aload_n X 55 d_M_step_55 rfl (lv_at hl 0 rfl) ?_
  refine gg_get_M_place X 56 (Or.inl (List.mem_cons_of_mem _ w_371)) d_M_step_56 ?_
  refine gg_aload_n X 59 d_M_step_59 rfl (lv_at hl 0 rfl) ?_
  refine gg_get_M_who X 60 (Or.inl (List.mem_cons_of_mem _ w_372)) d_M_step_60 ?_
  refine gg_ald_A_place X 63 d_M_step_63 ?_
  refine gg_istore_n X 64 (fun v1 => [(1, .int v1), (0, .ref (ad 0))]) d_M_step_64 rfl hl (by decide) (fun _ => rfl) (fun v1 ls hl => ?_)
  refine gg_aload_n X 65 d_M_step_65 rfl (lv_at hl 1 rfl) ?_
  refine gg_aload_n X 66 d_M_step_66 rfl (lv_at hl 1 rfl) ?_
  refine gg_get_M_who X 67 (Or.inl (List.mem_cons_of_mem _ w_372)) d_M_step_67 ?_
  refine gg_iload_n X 70 d_M_step_70 rfl (lv_at hl 0 rfl) ?_
  refine gg_callV X 71 nwOk_M [.int (s 13 1), .int v1] [] (fun _ _ h sz => M_M_uses l D dI ad _ (s 13 1) v1  h sz) (cwV 2 X.1.2.2.2.2 (gwV w_433 w_435 ws_M_uses w_5 w_436) rfl rfl rfl (by decide +kernel) ⟨by decide, by decide⟩) (he_M_Main) rfl rfl hl.1 rfl (Nat.le_of_ble_eq_true rfl) ⟨Nat.zero_le _, Nat.zero_le _⟩ d_M_step_71 (fun r2 s3 ho4 => ?_)
  refine gg_show_i ?_
  refine gg_if_ne X 74 83 d_M_step_74 rfl (fun _ => ?_) (fun _ => ?_)
  · refine gg_aload_n X 83 d_M_step_83 rfl (lv_at hl 1 rfl) ?_
    refine gg_get_M_memory X 84 (Or.inl (List.mem_cons_of_mem _ w_359)) d_M_step_84 ?_
    refine gg_iload_n X 87 d_M_step_87 rfl (lv_at hl 0 rfl) ?_
    refine gg_ald_A_memory X 88 d_M_step_88 ?_
    refine gg_istore_n X 89 (fun v5 => [(2, .int v5), (1, .int v1), (0, .ref (ad 0))]) d_M_step_89 rfl hl (by decide) (fun _ => rfl) (fun v5 ls hl => ?_)
    refine gg_iload_n X 90 d_M_step_90 rfl (lv_at hl 0 rfl) ?_
    refine gg_bipush X 91 (15 : Int32) d_M_step_91 (by decide) ?_
    refine gg_iand X 93 d_M_step_93 ?_
    refine gg_istore_n X 94 (fun v6 => [(3, .int v6), (2, .int v5), (1, .int v1), (0, .ref (ad 0))]) d_M_step_94 rfl hl (by decide) (fun _ => rfl) (fun v6 ls hl => ?_)
    refine gg_bipush X 95 (8 : Int32) d_M_step_95 (by decide) ?_
    refine gg_aload_n X 97 d_M_step_97 rfl (lv_at hl 3 rfl) ?_
    refine gg_get_M_who X 98 (Or.inl (List.mem_cons_of_mem _ w_372)) d_M_step_98 ?_
    refine gg_imul X 101 d_M_step_101 ?_
    refine gg_istore X 102 (fun v7 => [(4, .int v7), (3, .int v6), (2, .int v5), (1, .int v1), (0, .ref (ad 0))]) d_M_step_102 hl (by decide) (fun _ => rfl) (fun v7 ls hl => ?_)
    refine gg_iload_n X 104 d_M_step_104 rfl (lv_at hl 2 rfl) ?_
    refine gg_iconst X 105 (4 : Int32) d_M_step_105 (by decide) ?_
    refine gg_ishr X 106 d_M_step_106 ?_
    refine gg_bipush X 107 (7 : Int32) d_M_step_107 (by decide) ?_
    refine gg_iand X 109 d_M_step_109 ?_
    refine gg_istore X 110 (fun v8 => [(5, .int v8), (4, .int v7), (3, .int v6), (2, .int v5), (1, .int v1), (0, .ref (ad 0))]) d_M_step_110 hl (by decide) (fun _ => rfl) (fun v8 ls hl => ?_)
    refine gg_aload_n X 112 d_M_step_112 rfl (lv_at hl 5 rfl) ?_
    refine gg_get_M_reg X 113 (Or.inl (List.mem_cons_of_mem _ w_370)) d_M_step_113 ?_
    refine gg_iload X 116 d_M_step_116 (lv_at hl 1 rfl) ?_
    refine gg_iload_n X 118 d_M_step_118 rfl (lv_at hl 3 rfl) ?_
    refine gg_bipush X 119 (7 : Int32) d_M_step_119 (by decide) ?_
    refine gg_ishr X 121 d_M_step_121 ?_
    refine gg_bipush X 122 (7 : Int32) d_M_step_122 (by decide) ?_
    refine gg_iand X 124 d_M_step_124 ?_
    refine gg_iadd X 125 d_M_step_125 ?_
    refine gg_ald_A_reg X 126 d_M_step_126 ?_
    refine gg_istore X 127 (fun v9 => [(6, .int v9), (5, .int v8), (4, .int v7), (3, .int v6), (2, .int v5), (1, .int v1), (0, .ref (ad 0))]) d_M_step_127 hl (by decide) (fun _ => rfl) (fun v9 ls hl => ?_)
    refine gg_aload_n X 129 d_M_step_129 rfl (lv_at hl 6 rfl) ?_
    refine gg_get_M_reg X 130 (Or.inl (List.mem_cons_of_mem _ w_370)) d_M_step_130 ?_
    refine gg_iload X 133 d_M_step_133 (lv_at hl 2 rfl) ?_
    refine gg_iload_n X 135 d_M_step_135 rfl (lv_at hl 4 rfl) ?_
    refine gg_bipush X 136 (10 : Int32) d_M_step_136 (by decide) ?_
    refine gg_ishr X 138 d_M_step_138 ?_
    refine gg_bipush X 139 (7 : Int32) d_M_step_139 (by decide) ?_
    refine gg_iand X 141 d_M_step_141 ?_
    refine gg_iadd X 142 d_M_step_142 ?_
    refine gg_ald_A_reg X 143 d_M_step_143 ?_
    refine gg_istore X 144 (fun v10 => [(7, .int v10), (6, .int v9), (5, .int v8), (4, .int v7), (3, .int v6), (2, .int v5), (1, .int v1), (0, .ref (ad 0))]) d_M_step_144 hl (by decide) (fun _ => rfl) (fun v10 ls hl => ?_)
    refine gg_iload_n X 146 d_M_step_146 rfl (lv_at hl 5 rfl) ?_
    refine gg_bipush X 147 (16 : Int32) d_M_step_147 (by decide) ?_
    refine gg_ishr X 149 d_M_step_149 ?_
    refine gg_istore X 150 (fun v11 => [(8, .int v11), (7, .int v10), (6, .int v9), (5, .int v8), (4, .int v7), (3, .int v6), (2, .int v5), (1, .int v1), (0, .ref (ad 0))]) d_M_step_150 hl (by decide) (fun _ => rfl) (fun v11 ls hl => ?_)
    refine gg_iload_n X 152 d_M_step_152 rfl (lv_at hl 5 rfl) ?_
    refine gg_iconst X 153 (1 : Int32) d_M_step_153 (by decide) ?_
    refine gg_icmp_lt X 154 255 d_M_step_154 rfl (fun _ => ?_) (fun _ => ?_)
    · exact t_M_step_255 X v1 v6 v7 v8 v9 v11 s3 _  (lv_sub hl [8, 7, 5, 4, 3, 2, 0] rfl)
    · refine gg_iload_n X 157 d_M_step_157 rfl (lv_at hl 5 rfl) ?_
      refine gg_bipush X 158 (6 : Int32) d_M_step_158 (by decide) ?_
      refine gg_icmp_gt X 160 255 d_M_step_160 rfl (fun _ => ?_) (fun _ => ?_)
      · exact t_M_step_255 X v1 v6 v7 v8 v9 v11 s3 _  (lv_sub hl [8, 7, 5, 4, 3, 2, 0] rfl)
      · refine gg_iload_n X 163 d_M_step_163 rfl (lv_at hl 5 rfl) ?_
        refine gg_iconst X 164 (1 : Int32) d_M_step_164 (by decide) ?_
        refine gg_icmp_ne X 165 173 d_M_step_165 rfl (fun _ => ?_) (fun _ => ?_)
        · refine gg_iload_n X 173 d_M_step_173 rfl (lv_at hl 5 rfl) ?_
          refine gg_iconst X 174 (2 : Int32) d_M_step_174 (by decide) ?_
          refine gg_icmp_ne X 175 186 d_M_step_175 rfl (fun _ => ?_) (fun _ => ?_)
          · refine gg_iload_n X 186 d_M_step_186 rfl (lv_at hl 5 rfl) ?_
            refine gg_iconst X 187 (3 : Int32) d_M_step_187 (by decide) ?_
            refine gg_icmp_ne X 188 199 d_M_step_188 rfl (fun _ => ?_) (fun _ => ?_)
            · refine gg_iload_n X 199 d_M_step_199 rfl (lv_at hl 5 rfl) ?_
              refine gg_iconst X 200 (4 : Int32) d_M_step_200 (by decide) ?_
              refine gg_icmp_ne X 201 212 d_M_step_201 rfl (fun _ => ?_) (fun _ => ?_)
              · refine gg_iload_n X 212 d_M_step_212 rfl (lv_at hl 5 rfl) ?_
                refine gg_iconst X 213 (5 : Int32) d_M_step_213 (by decide) ?_
                refine gg_icmp_ne X 214 225 d_M_step_214 rfl (fun _ => ?_) (fun _ => ?_)
                · refine gg_iload X 225 d_M_step_225 (lv_at hl 2 rfl) ?_
                  refine gg_iload X 227 d_M_step_227 (lv_at hl 1 rfl) ?_
                  refine gg_ixor X 229 d_M_step_229 ?_
                  exact t_M_step_230 X v1 v8 (v9 ^^^ v10) s3 _  (lv_sub hl [8, 7, 3] rfl)
                · refine gg_iload X 217 d_M_step_217 (lv_at hl 2 rfl) ?_
                  refine gg_iload X 219 d_M_step_219 (lv_at hl 1 rfl) ?_
                  refine gg_imul X 221 d_M_step_221 ?_
                  refine gg_goto X 222 230 d_M_step_222 rfl ?_
                  exact t_M_step_230 X v1 v8 (v9 * v10) s3 _  (lv_sub hl [8, 7, 3] rfl)
              · refine gg_iload X 204 d_M_step_204 (lv_at hl 2 rfl) ?_
                refine gg_iload X 206 d_M_step_206 (lv_at hl 1 rfl) ?_
                refine gg_isub X 208 d_M_step_208 ?_
                refine gg_goto X 209 230 d_M_step_209 rfl ?_
                exact t_M_step_230 X v1 v8 (v9 - v10) s3 _  (lv_sub hl [8, 7, 3] rfl)
            · refine gg_iload X 191 d_M_step_191 (lv_at hl 2 rfl) ?_
              refine gg_iload X 193 d_M_step_193 (lv_at hl 1 rfl) ?_
              refine gg_iadd X 195 d_M_step_195 ?_
              refine gg_goto X 196 230 d_M_step_196 rfl ?_
              exact t_M_step_230 X v1 v8 (v9 + v10) s3 _  (lv_sub hl [8, 7, 3] rfl)
          · refine gg_iload X 178 d_M_step_178 (lv_at hl 2 rfl) ?_
            refine gg_iload X 180 d_M_step_180 (lv_at hl 0 rfl) ?_
            refine gg_iadd X 182 d_M_step_182 ?_
            refine gg_goto X 183 230 d_M_step_183 rfl ?_
            exact t_M_step_230 X v1 v8 (v9 + v11) s3 _  (lv_sub hl [8, 7, 3] rfl)
        · refine gg_iload X 168 d_M_step_168 (lv_at hl 0 rfl) ?_
          refine gg_goto X 170 230 d_M_step_170 rfl ?_
          exact t_M_step_230 X v1 v8 v11 s3 _  (lv_sub hl [8, 7, 3] rfl)
  · refine gg_aload_n X 77 d_M_step_77 rfl (lv_at hl 1 rfl) ?_
    refine gg_iconst X 78 (3 : Int32) d_M_step_78 (by decide) ?_
    refine gg_callV X 79 nwOk_M [.int (3 : Int32)] [] (fun _ _ h sz => M_M_fault l D dI ad _ (3 : Int32)  h sz) (cwV 1 X.1.2.2.2.2 (gwV w_539 w_541 ws_M_fault w_5 w_542) rfl rfl rfl (by decide +kernel) ⟨by decide, by decide⟩) (he_M_Main) rfl rfl hl.1 rfl (Nat.le_of_ble_eq_true rfl) ⟨Nat.zero_le _, Nat.zero_le _⟩ d_M_step_79 (fun r12 s13 ho14 => ?_)
    refine gg_show_v ?_
    exact gg_vret X 82 d_M_step_82
set_option maxHeartbeats 4000000 in
set_option maxRecDepth 100000 in
theorem t_M_step {p : Program} {l : Launch} {e : Env} {s0 : State} {m : MethodId} {args : Array Value} {below : List Frame} {meth : Method} {c : Code} {D : va_G} {A : Nat → Prop} {dI : Nat → ClassId} {ad : Nat → Nat} (X : CX p s0 m args meth c D vwCl (tyM dI) [] A prog_6_method_22_code 11 none (Cond.code y_M_step prog_6_method_22_code 11 none :: WS) R_M)  (s : eS) (ls : Array Slot)  (hl : lv_has ls 11 [(0, .ref (ad 0))]) : GG p l e rm_M_step s0 m args below meth c D vwCl (tyM dI) A (wM dI ad) 0 0 (QM below args s0 D vwCl (tyM dI) A (wM dI ad) rvV) (f_M_step s) (F0 m 0 ls []) s := by
  unfold f_M_step
  refine gg_aload_n X 0 d_M_step_0 rfl (lv_at hl 0 rfl) ?_
  refine gg_dup X 1 d_M_step_1 rfl ?_
  refine gg_get_M_ticks X 2 (Or.inl (List.mem_cons_of_mem _ w_375)) d_M_step_2 ?_
  refine gg_iconst X 5 (1 : Int32) d_M_step_5 (by decide) ?_
  refine gg_iadd X 6 d_M_step_6 ?_
  refine gg_put_M_ticks X 7 (Or.inl (List.mem_cons_of_mem _ w_375)) d_M_step_7 (fun s1 => ?_)
  refine gg_aload_n X 10 d_M_step_10 rfl (lv_at hl 0 rfl) ?_
  refine gg_get_M_who X 11 (Or.inl (List.mem_cons_of_mem _ w_372)) d_M_step_11 ?_
  refine gg_bipush X 14 (6 : Int32) d_M_step_14 (by decide) ?_
  refine gg_icmp_ge X 16 55 d_M_step_16 rfl (fun _ => ?_) (fun _ => ?_)
  · exact t_M_step_55 X s1 _  (lv_sub hl [0] rfl)
  · refine gg_aload_n X 19 d_M_step_19 rfl (lv_at hl 0 rfl) ?_
    refine gg_get_M_rhythm X 20 (Or.inl (List.mem_cons_of_mem _ w_374)) d_M_step_20 ?_
    refine gg_if_le X 23 55 d_M_step_23 rfl (fun _ => ?_) (fun _ => ?_)
    · exact t_M_step_55 X s1 _  (lv_sub hl [0] rfl)
    · refine gg_aload_n X 26 d_M_step_26 rfl (lv_at hl 0 rfl) ?_
      refine gg_get_M_ticks X 27 (Or.inl (List.mem_cons_of_mem _ w_375)) d_M_step_27 ?_
      refine gg_aload_n X 30 d_M_step_30 rfl (lv_at hl 0 rfl) ?_
      refine gg_get_M_rhythm X 31 (Or.inl (List.mem_cons_of_mem _ w_374)) d_M_step_31 ?_
      refine gg_irem X 34 d_M_step_34 (fun _ => ?_)
      refine gg_if_ne X 35 55 d_M_step_35 rfl (fun _ => ?_) (fun _ => ?_)
      · exact t_M_step_55 X s1 _  (lv_sub hl [0] rfl)
      · refine gg_aload_n X 38 d_M_step_38 rfl (lv_at hl 0 rfl) ?_
        refine gg_get_M_phase X 39 (Or.inl (List.mem_cons_of_mem _ w_368)) d_M_step_39 ?_
        refine gg_aload_n X 42 d_M_step_42 rfl (lv_at hl 0 rfl) ?_
        refine gg_get_M_who X 43 (Or.inl (List.mem_cons_of_mem _ w_372)) d_M_step_43 ?_
        refine gg_iconst X 46 (3 : Int32) d_M_step_46 (by decide) ?_
        refine gg_ast_A_phase X 47 d_M_step_47 (fun s2 => ?_)
        refine gg_aload_n X 48 d_M_step_48 rfl (lv_at hl 0 rfl) ?_
        refine gg_iconst X 49 (2 : Int32) d_M_step_49 (by decide) ?_
        refine gg_iconst X 50 (0 : Int32) d_M_step_50 (by decide) ?_
        refine gg_callV X 51 nwOk_M [.int (2 : Int32), .int (0 : Int32)] [] (fun _ _ h sz => M_M_leave l D dI ad _ (2 : Int32) (0 : Int32)  h sz) (cwV 2 X.1.2.2.2.2 (gwV w_535 w_537 ws_M_leave w_5 w_538) rfl rfl rfl (by decide +kernel) ⟨by decide, by decide⟩) (he_M_Main) rfl rfl hl.1 rfl (Nat.le_of_ble_eq_true rfl) ⟨Nat.zero_le _, Nat.zero_le _⟩ d_M_step_51 (fun r3 s4 ho5 => ?_)
        refine gg_show_v ?_
        exact gg_vret X 54 d_M_step_54
theorem M_M_step (l : Launch) (D : va_G) (dI : Nat → ClassId) (ad : Nat → Nat) (s : eS)   {r : Unit} {s' : eS} (h : f_M_step s = some (r, s')) (sz : Nat) : Met l y_M_step (Cond.code y_M_step prog_6_method_22_code 11 none :: WS) rm_M_step (Px (wM dI ad) D vwCl (tyM dI) [] sz s [.ref (ad 0)]) (Qx rvV (wM dI ad) D vwCl (tyM dI) (va_A ((wM dI ad) s) sz) r s') 0 0 (va_A ((wM dI ad) s) sz) :=
  met_of [.ref (ad 0)] (by decide) rfl rfl (Nat.le_of_ble_eq_true rfl) h (fun p e s0 m args below meth c A ls X hl => t_M_step X s ls  hl)
set_option maxHeartbeats 4000000 in
set_option maxRecDepth 100000 in
theorem t_M_poke {p : Program} {l : Launch} {e : Env} {s0 : State} {m : MethodId} {args : Array Value} {below : List Frame} {meth : Method} {c : Code} {D : va_G} {A : Nat → Prop} {dI : Nat → ClassId} {ad : Nat → Nat} (X : CX p s0 m args meth c D vwCl (tyM dI) [] A prog_6_method_26_code 3 (some .boolean) (Cond.code y_M_poke prog_6_method_26_code 3 (some .boolean) :: WS) R_M) (a1 : Int32) (a2 : Int32) (s : eS) (ls : Array Slot)  (hl : lv_has ls 3 [(0, .ref (ad 0)), (1, .int a1), (2, .int a2)]) : GG p l e rm_M_poke s0 m args below meth c D vwCl (tyM dI) A (wM dI ad) 0 0 (QM below args s0 D vwCl (tyM dI) A (wM dI ad) rvI) (f_M_poke a1 a2 s) (F0 m 0 ls []) s := by
  unfold f_M_poke
  refine gg_aload_n X 0 d_M_poke_0 rfl (lv_at hl 0 rfl) ?_
  refine gg_bipush X 1 (6 : Int32) d_M_poke_1 (by decide) ?_
  refine gg_iload_n X 3 d_M_poke_3 rfl (lv_at hl 1 rfl) ?_
  refine gg_callV X 4 nwOk_M [.int (6 : Int32), .int a1] [] (fun _ _ h sz => M_M_uses l D dI ad _ (6 : Int32) a1  h sz) (cwV 2 X.1.2.2.2.2 (gwV w_433 w_435 ws_M_uses w_5 w_436) rfl rfl rfl (by decide +kernel) ⟨by decide, by decide⟩) (he_M_Main) rfl rfl hl.1 rfl (Nat.le_of_ble_eq_true rfl) ⟨Nat.zero_le _, Nat.zero_le _⟩ d_M_poke_4 (fun r1 s2 ho3 => ?_)
  refine gg_show_i ?_
  refine gg_if_ne X 7 12 d_M_poke_7 rfl (fun _ => ?_) (fun _ => ?_)
  · refine gg_aload_n X 12 d_M_poke_12 rfl (lv_at hl 0 rfl) ?_
    refine gg_get_M_memory X 13 (Or.inl (List.mem_cons_of_mem _ w_359)) d_M_poke_13 ?_
    refine gg_iload_n X 16 d_M_poke_16 rfl (lv_at hl 1 rfl) ?_
    refine gg_iload_n X 17 d_M_poke_17 rfl (lv_at hl 2 rfl) ?_
    refine gg_ast_A_memory X 18 d_M_poke_18 (fun s4 => ?_)
    refine gg_iconst X 19 (1 : Int32) d_M_poke_19 (by decide) ?_
    exact gg_zretk X 20 rfl d_M_poke_20
  · refine gg_iconst X 10 (0 : Int32) d_M_poke_10 (by decide) ?_
    exact gg_zretk X 11 rfl d_M_poke_11
theorem M_M_poke (l : Launch) (D : va_G) (dI : Nat → ClassId) (ad : Nat → Nat) (s : eS) (a1 : Int32) (a2 : Int32)  {r : Int32} {s' : eS} (h : f_M_poke a1 a2 s = some (r, s')) (sz : Nat) : Met l y_M_poke (Cond.code y_M_poke prog_6_method_26_code 3 (some .boolean) :: WS) rm_M_poke (Px (wM dI ad) D vwCl (tyM dI) [] sz s [.ref (ad 0), .int a1, .int a2]) (Qx rvI (wM dI ad) D vwCl (tyM dI) (va_A ((wM dI ad) s) sz) r s') 0 0 (va_A ((wM dI ad) s) sz) :=
  met_of [.ref (ad 0), .int a1, .int a2] (by decide) rfl rfl (Nat.le_of_ble_eq_true rfl) h (fun p e s0 m args below meth c A ls X hl => t_M_poke X a1 a2 s ls  hl)
set_option maxHeartbeats 4000000 in
set_option maxRecDepth 100000 in
theorem t_M_peek {p : Program} {l : Launch} {e : Env} {s0 : State} {m : MethodId} {args : Array Value} {below : List Frame} {meth : Method} {c : Code} {D : va_G} {A : Nat → Prop} {dI : Nat → ClassId} {ad : Nat → Nat} (X : CX p s0 m args meth c D vwCl (tyM dI) [] A prog_6_method_27_code 2 (some .int) (Cond.code y_M_peek prog_6_method_27_code 2 (some .int) :: WS) R_M) (a1 : Int32) (s : eS) (ls : Array Slot)  (hl : lv_has ls 2 [(0, .ref (ad 0)), (1, .int a1)]) : GG p l e rm_M_peek s0 m args below meth c D vwCl (tyM dI) A (wM dI ad) 0 0 (QM below args s0 D vwCl (tyM dI) A (wM dI ad) rvI) (f_M_peek a1 s) (F0 m 0 ls []) s := by
  unfold f_M_peek
  refine gg_aload_n X 0 d_M_peek_0 rfl (lv_at hl 0 rfl) ?_
  refine gg_bipush X 1 (6 : Int32) d_M_peek_1 (by decide) ?_
  refine gg_iload_n X 3 d_M_peek_3 rfl (lv_at hl 1 rfl) ?_
  refine gg_callV X 4 nwOk_M [.int (6 : Int32), .int a1] [] (fun _ _ h sz => M_M_uses l D dI ad _ (6 : Int32) a1  h sz) (cwV 2 X.1.2.2.2.2 (gwV w_433 w_435 ws_M_uses w_5 w_436) rfl rfl rfl (by decide +kernel) ⟨by decide, by decide⟩) (he_M_Main) rfl rfl hl.1 rfl (Nat.le_of_ble_eq_true rfl) ⟨Nat.zero_le _, Nat.zero_le _⟩ d_M_peek_4 (fun r1 s2 ho3 => ?_)
  refine gg_show_i ?_
  refine gg_if_eq X 7 19 d_M_peek_7 rfl (fun _ => ?_) (fun _ => ?_)
  · refine gg_iconst X 19 (0 : Int32) d_M_peek_19 (by decide) ?_
    exact gg_iret X 20 d_M_peek_20
  · refine gg_aload_n X 10 d_M_peek_10 rfl (lv_at hl 0 rfl) ?_
    refine gg_get_M_memory X 11 (Or.inl (List.mem_cons_of_mem _ w_359)) d_M_peek_11 ?_
    refine gg_iload_n X 14 d_M_peek_14 rfl (lv_at hl 1 rfl) ?_
    refine gg_ald_A_memory X 15 d_M_peek_15 ?_
    refine gg_goto X 16 20 d_M_peek_16 rfl ?_
    exact gg_iret X 20 d_M_peek_20
theorem M_M_peek (l : Launch) (D : va_G) (dI : Nat → ClassId) (ad : Nat → Nat) (s : eS) (a1 : Int32)  {r : Int32} {s' : eS} (h : f_M_peek a1 s = some (r, s')) (sz : Nat) : Met l y_M_peek (Cond.code y_M_peek prog_6_method_27_code 2 (some .int) :: WS) rm_M_peek (Px (wM dI ad) D vwCl (tyM dI) [] sz s [.ref (ad 0), .int a1]) (Qx rvI (wM dI ad) D vwCl (tyM dI) (va_A ((wM dI ad) s) sz) r s') 0 0 (va_A ((wM dI ad) s) sz) :=
  met_of [.ref (ad 0), .int a1] (by decide) rfl rfl (Nat.le_of_ble_eq_true rfl) h (fun p e s0 m args below meth c A ls X hl => t_M_peek X a1 s ls  hl)
set_option maxHeartbeats 4000000 in
set_option maxRecDepth 100000 in
theorem t_M_bare {p : Program} {l : Launch} {e : Env} {s0 : State} {m : MethodId} {args : Array Value} {below : List Frame} {meth : Method} {c : Code} {D : va_G} {A : Nat → Prop} {dI : Nat → ClassId} {ad : Nat → Nat} (X : CX p s0 m args meth c D vwCl (tyM dI) [] A prog_6_method_28_code 2 (some .int) (Cond.code y_M_bare prog_6_method_28_code 2 (some .int) :: WS) R_M) (a1 : Int32) (s : eS) (ls : Array Slot)  (hl : lv_has ls 2 [(0, .ref (ad 0)), (1, .int a1)]) : GG p l e rm_M_bare s0 m args below meth c D vwCl (tyM dI) A (wM dI ad) 0 0 (QM below args s0 D vwCl (tyM dI) A (wM dI ad) rvI) (f_M_bare a1 s) (F0 m 0 ls []) s := by
  unfold f_M_bare
  refine gg_iload_n X 0 d_M_bare_0 rfl (lv_at hl 1 rfl) ?_
  refine gg_sipush X 1 (255 : Int32) d_M_bare_1 (by decide) ?_
  refine gg_callS X 4 nwOk_M [.int a1, .int (255 : Int32)] [] (fun _ _ h sz => M_M_outside l D dI ad _ a1 (255 : Int32)  h sz) (cwS 2 X.1.2.2.2.2 (gwS w_437 w_438 w_5 w_439) rfl rfl rfl (by decide +kernel) ⟨by decide, by decide⟩) rfl hl.1 rfl (Nat.le_of_ble_eq_true rfl) ⟨Nat.zero_le _, Nat.zero_le _⟩ d_M_bare_4 (fun r1 s2 ho3 => ?_)
  refine gg_show_i ?_
  refine gg_if_eq X 7 14 d_M_bare_7 rfl (fun _ => ?_) (fun _ => ?_)
  · refine gg_aload_n X 14 d_M_bare_14 rfl (lv_at hl 0 rfl) ?_
    refine gg_get_M_memory X 15 (Or.inl (List.mem_cons_of_mem _ w_359)) d_M_bare_15 ?_
    refine gg_iload_n X 18 d_M_bare_18 rfl (lv_at hl 1 rfl) ?_
    refine gg_ald_A_memory X 19 d_M_bare_19 ?_
    exact gg_iret X 20 d_M_bare_20
  · refine gg_iconst X 10 (0 : Int32) d_M_bare_10 (by decide) ?_
    refine gg_goto X 11 20 d_M_bare_11 rfl ?_
    exact gg_iret X 20 d_M_bare_20
theorem M_M_bare (l : Launch) (D : va_G) (dI : Nat → ClassId) (ad : Nat → Nat) (s : eS) (a1 : Int32)  {r : Int32} {s' : eS} (h : f_M_bare a1 s = some (r, s')) (sz : Nat) : Met l y_M_bare (Cond.code y_M_bare prog_6_method_28_code 2 (some .int) :: WS) rm_M_bare (Px (wM dI ad) D vwCl (tyM dI) [] sz s [.ref (ad 0), .int a1]) (Qx rvI (wM dI ad) D vwCl (tyM dI) (va_A ((wM dI ad) s) sz) r s') 0 0 (va_A ((wM dI ad) s) sz) :=
  met_of [.ref (ad 0), .int a1] (by decide) rfl rfl (Nat.le_of_ble_eq_true rfl) h (fun p e s0 m args below meth c A ls X hl => t_M_bare X a1 s ls  hl)
set_option maxHeartbeats 4000000 in
set_option maxRecDepth 100000 in
theorem t_M_give_20 {p : Program} {l : Launch} {e : Env} {s0 : State} {m : MethodId} {args : Array Value} {below : List Frame} {meth : Method} {c : Code} {D : va_G} {A : Nat → Prop} {dI : Nat → ClassId} {ad : Nat → Nat} (X : CX p s0 m args meth c D vwCl (tyM dI) [] A prog_6_method_29_code 3 (some .boolean) (Cond.code y_M_give prog_6_method_29_code 3 (some .boolean) :: WS) R_M)  (s : eS) (ls : Array Slot)  (hl : lv_has ls 3 []) : GG p l e rm_M_give s0 m args below meth c D vwCl (tyM dI) A (wM dI ad) 0 0 (QM below args s0 D vwCl (tyM dI) A (wM dI ad) rvI) (f_M_give_20 s) (F0 m 20 ls []) s := by
  unfold f_M_give_20
  refine gg_iconst X 20 (0 : Int32) d_M_give_20 (by decide) ?_
  exact gg_zretk X 21 rfl d_M_give_21
set_option maxHeartbeats 4000000 in
set_option maxRecDepth 100000 in
theorem t_M_give {p : Program} {l : Launch} {e : Env} {s0 : State} {m : MethodId} {args : Array Value} {below : List Frame} {meth : Method} {c : Code} {D : va_G} {A : Nat → Prop} {dI : Nat → ClassId} {ad : Nat → Nat} (X : CX p s0 m args meth c D vwCl (tyM dI) [] A prog_6_method_29_code 3 (some .boolean) (Cond.code y_M_give prog_6_method_29_code 3 (some .boolean) :: WS) R_M) (a1 : Int32) (a2 : Int32) (s : eS) (ls : Array Slot)  (hl : lv_has ls 3 [(0, .ref (ad 0)), (1, .int a1), (2, .int a2)]) : GG p l e rm_M_give s0 m args below meth c D vwCl (tyM dI) A (wM dI ad) 0 0 (QM below args s0 D vwCl (tyM dI) A (wM dI ad) rvI) (f_M_give a1 a2 s) (F0 m 0 ls []) s := by
  unfold f_M_give
  refine gg_iload_n X 0 d_M_give_0 rfl (lv_at hl 1 rfl) ?_
  refine gg_iconst X 1 (1 : Int32) d_M_give_1 (by decide) ?_
  refine gg_icmp_lt X 2 20 d_M_give_2 rfl (fun _ => ?_) (fun _ => ?_)
  · exact t_M_give_20 X s _  (lv_sub hl [] rfl)
  · refine gg_iload_n X 5 d_M_give_5 rfl (lv_at hl 1 rfl) ?_
    refine gg_bipush X 6 (7 : Int32) d_M_give_6 (by decide) ?_
    refine gg_icmp_gt X 8 20 d_M_give_8 rfl (fun _ => ?_) (fun _ => ?_)
    · exact t_M_give_20 X s _  (lv_sub hl [] rfl)
    · refine gg_aload_n X 11 d_M_give_11 rfl (lv_at hl 0 rfl) ?_
      refine gg_get_M_who X 12 (Or.inl (List.mem_cons_of_mem _ w_372)) d_M_give_12 ?_
      refine gg_bipush X 15 (6 : Int32) d_M_give_15 (by decide) ?_
      refine gg_icmp_ge X 17 22 d_M_give_17 rfl (fun _ => ?_) (fun _ => ?_)
      · refine gg_aload_n X 22 d_M_give_22 rfl (lv_at hl 0 rfl) ?_
        refine gg_get_M_reg X 23 (Or.inl (List.mem_cons_of_mem _ w_370)) d_M_give_23 ?_
        refine gg_bipush X 26 (48 : Int32) d_M_give_26 (by decide) ?_
        refine gg_iload_n X 28 d_M_give_28 rfl (lv_at hl 1 rfl) ?_
        refine gg_iadd X 29 d_M_give_29 ?_
        refine gg_iload_n X 30 d_M_give_30 rfl (lv_at hl 2 rfl) ?_
        refine gg_ast_A_reg X 31 d_M_give_31 (fun s1 => ?_)
        refine gg_iconst X 32 (1 : Int32) d_M_give_32 (by decide) ?_
        exact gg_zretk X 33 rfl d_M_give_33
      · exact t_M_give_20 X s _  (lv_sub hl [] rfl)
theorem M_M_give (l : Launch) (D : va_G) (dI : Nat → ClassId) (ad : Nat → Nat) (s : eS) (a1 : Int32) (a2 : Int32)  {r : Int32} {s' : eS} (h : f_M_give a1 a2 s = some (r, s')) (sz : Nat) : Met l y_M_give (Cond.code y_M_give prog_6_method_29_code 3 (some .boolean) :: WS) rm_M_give (Px (wM dI ad) D vwCl (tyM dI) [] sz s [.ref (ad 0), .int a1, .int a2]) (Qx rvI (wM dI ad) D vwCl (tyM dI) (va_A ((wM dI ad) s) sz) r s') 0 0 (va_A ((wM dI ad) s) sz) :=
  met_of [.ref (ad 0), .int a1, .int a2] (by decide) rfl rfl (Nat.le_of_ble_eq_true rfl) h (fun p e s0 m args below meth c A ls X hl => t_M_give X a1 a2 s ls  hl)
set_option maxHeartbeats 4000000 in
set_option maxRecDepth 100000 in
theorem t_M_register {p : Program} {l : Launch} {e : Env} {s0 : State} {m : MethodId} {args : Array Value} {below : List Frame} {meth : Method} {c : Code} {D : va_G} {A : Nat → Prop} {dI : Nat → ClassId} {ad : Nat → Nat} (X : CX p s0 m args meth c D vwCl (tyM dI) [] A prog_6_method_30_code 2 (some .int) (Cond.code y_M_register prog_6_method_30_code 2 (some .int) :: WS) R_M) (a1 : Int32) (s : eS) (ls : Array Slot)  (hl : lv_has ls 2 [(0, .ref (ad 0)), (1, .int a1)]) : GG p l e rm_M_register s0 m args below meth c D vwCl (tyM dI) A (wM dI ad) 0 0 (QM below args s0 D vwCl (tyM dI) A (wM dI ad) rvI) (f_M_register a1 s) (F0 m 0 ls []) s := by
  unfold f_M_register
  refine gg_iload_n X 0 d_M_register_0 rfl (lv_at hl 1 rfl) ?_
  refine gg_bipush X 1 (7 : Int32) d_M_register_1 (by decide) ?_
  refine gg_callS X 3 nwOk_M [.int a1, .int (7 : Int32)] [] (fun _ _ h sz => M_M_outside l D dI ad _ a1 (7 : Int32)  h sz) (cwS 2 X.1.2.2.2.2 (gwS w_437 w_438 w_5 w_439) rfl rfl rfl (by decide +kernel) ⟨by decide, by decide⟩) rfl hl.1 rfl (Nat.le_of_ble_eq_true rfl) ⟨Nat.zero_le _, Nat.zero_le _⟩ d_M_register_3 (fun r1 s2 ho3 => ?_)
  refine gg_show_i ?_
  refine gg_if_eq X 6 13 d_M_register_6 rfl (fun _ => ?_) (fun _ => ?_)
  · refine gg_aload_n X 13 d_M_register_13 rfl (lv_at hl 0 rfl) ?_
    refine gg_get_M_reg X 14 (Or.inl (List.mem_cons_of_mem _ w_370)) d_M_register_14 ?_
    refine gg_bipush X 17 (48 : Int32) d_M_register_17 (by decide) ?_
    refine gg_iload_n X 19 d_M_register_19 rfl (lv_at hl 1 rfl) ?_
    refine gg_iadd X 20 d_M_register_20 ?_
    refine gg_ald_A_reg X 21 d_M_register_21 ?_
    exact gg_iret X 22 d_M_register_22
  · refine gg_iconst X 9 (0 : Int32) d_M_register_9 (by decide) ?_
    refine gg_goto X 10 22 d_M_register_10 rfl ?_
    exact gg_iret X 22 d_M_register_22
theorem M_M_register (l : Launch) (D : va_G) (dI : Nat → ClassId) (ad : Nat → Nat) (s : eS) (a1 : Int32)  {r : Int32} {s' : eS} (h : f_M_register a1 s = some (r, s')) (sz : Nat) : Met l y_M_register (Cond.code y_M_register prog_6_method_30_code 2 (some .int) :: WS) rm_M_register (Px (wM dI ad) D vwCl (tyM dI) [] sz s [.ref (ad 0), .int a1]) (Qx rvI (wM dI ad) D vwCl (tyM dI) (va_A ((wM dI ad) s) sz) r s') 0 0 (va_A ((wM dI ad) s) sz) :=
  met_of [.ref (ad 0), .int a1] (by decide) rfl rfl (Nat.le_of_ble_eq_true rfl) h (fun p e s0 m args below meth c A ls X hl => t_M_register X a1 s ls  hl)
set_option maxHeartbeats 4000000 in
set_option maxRecDepth 100000 in
theorem t_M_pc {p : Program} {l : Launch} {e : Env} {s0 : State} {m : MethodId} {args : Array Value} {below : List Frame} {meth : Method} {c : Code} {D : va_G} {A : Nat → Prop} {dI : Nat → ClassId} {ad : Nat → Nat} (X : CX p s0 m args meth c D vwCl (tyM dI) [] A prog_6_method_31_code 1 (some .int) (Cond.code y_M_pc prog_6_method_31_code 1 (some .int) :: WS) R_M)  (s : eS) (ls : Array Slot)  (hl : lv_has ls 1 [(0, .ref (ad 0))]) : GG p l e rm_M_pc s0 m args below meth c D vwCl (tyM dI) A (wM dI ad) 0 0 (QM below args s0 D vwCl (tyM dI) A (wM dI ad) rvI) (f_M_pc s) (F0 m 0 ls []) s := by
  unfold f_M_pc
  refine gg_aload_n X 0 d_M_pc_0 rfl (lv_at hl 0 rfl) ?_
  refine gg_get_M_place X 1 (Or.inl (List.mem_cons_of_mem _ w_371)) d_M_pc_1 ?_
  refine gg_bipush X 4 (6 : Int32) d_M_pc_4 (by decide) ?_
  refine gg_ald_A_place X 6 d_M_pc_6 ?_
  exact gg_iret X 7 d_M_pc_7
theorem M_M_pc (l : Launch) (D : va_G) (dI : Nat → ClassId) (ad : Nat → Nat) (s : eS)   {r : Int32} {s' : eS} (h : f_M_pc s = some (r, s')) (sz : Nat) : Met l y_M_pc (Cond.code y_M_pc prog_6_method_31_code 1 (some .int) :: WS) rm_M_pc (Px (wM dI ad) D vwCl (tyM dI) [] sz s [.ref (ad 0)]) (Qx rvI (wM dI ad) D vwCl (tyM dI) (va_A ((wM dI ad) s) sz) r s') 0 0 (va_A ((wM dI ad) s) sz) :=
  met_of [.ref (ad 0)] (by decide) rfl rfl (Nat.le_of_ble_eq_true rfl) h (fun p e s0 m args below meth c A ls X hl => t_M_pc X s ls  hl)
set_option maxHeartbeats 4000000 in
set_option maxRecDepth 100000 in
theorem t_M_boot {p : Program} {l : Launch} {e : Env} {s0 : State} {m : MethodId} {args : Array Value} {below : List Frame} {meth : Method} {c : Code} {D : va_G} {A : Nat → Prop} {dI : Nat → ClassId} {ad : Nat → Nat} (X : CX p s0 m args meth c D vwCl (tyM dI) [] A prog_6_method_32_code 2 (some .boolean) (Cond.code y_M_boot prog_6_method_32_code 2 (some .boolean) :: WS) R_M) (a1 : Int32) (s : eS) (ls : Array Slot)  (hl : lv_has ls 2 [(0, .ref (ad 0)), (1, .int a1)]) : GG p l e rm_M_boot s0 m args below meth c D vwCl (tyM dI) A (wM dI ad) 0 0 (QM below args s0 D vwCl (tyM dI) A (wM dI ad) rvI) (f_M_boot a1 s) (F0 m 0 ls []) s := by
  unfold f_M_boot
  refine gg_aload_n X 0 d_M_boot_0 rfl (lv_at hl 0 rfl) ?_
  refine gg_get_M_who X 1 (Or.inl (List.mem_cons_of_mem _ w_372)) d_M_boot_1 ?_
  refine gg_bipush X 4 (6 : Int32) d_M_boot_4 (by decide) ?_
  refine gg_icmp_ge X 6 11 d_M_boot_6 rfl (fun _ => ?_) (fun _ => ?_)
  · refine gg_aload_n X 11 d_M_boot_11 rfl (lv_at hl 0 rfl) ?_
    refine gg_get_M_place X 12 (Or.inl (List.mem_cons_of_mem _ w_371)) d_M_boot_12 ?_
    refine gg_bipush X 15 (6 : Int32) d_M_boot_15 (by decide) ?_
    refine gg_iload_n X 17 d_M_boot_17 rfl (lv_at hl 1 rfl) ?_
    refine gg_ast_A_place X 18 d_M_boot_18 (fun s1 => ?_)
    refine gg_aload_n X 19 d_M_boot_19 rfl (lv_at hl 0 rfl) ?_
    refine gg_iconst X 20 (0 : Int32) d_M_boot_20 (by decide) ?_
    refine gg_put_M_stopped X 21 (Or.inl (List.mem_cons_of_mem _ w_373)) rfl rfl d_M_boot_21 (fun s2 => ?_)
    refine gg_iconst X 24 (1 : Int32) d_M_boot_24 (by decide) ?_
    exact gg_zretk X 25 rfl d_M_boot_25
  · refine gg_iconst X 9 (0 : Int32) d_M_boot_9 (by decide) ?_
    exact gg_zretk X 10 rfl d_M_boot_10
theorem M_M_boot (l : Launch) (D : va_G) (dI : Nat → ClassId) (ad : Nat → Nat) (s : eS) (a1 : Int32)  {r : Int32} {s' : eS} (h : f_M_boot a1 s = some (r, s')) (sz : Nat) : Met l y_M_boot (Cond.code y_M_boot prog_6_method_32_code 2 (some .boolean) :: WS) rm_M_boot (Px (wM dI ad) D vwCl (tyM dI) [] sz s [.ref (ad 0), .int a1]) (Qx rvI (wM dI ad) D vwCl (tyM dI) (va_A ((wM dI ad) s) sz) r s') 0 0 (va_A ((wM dI ad) s) sz) :=
  met_of [.ref (ad 0), .int a1] (by decide) rfl rfl (Nat.le_of_ble_eq_true rfl) h (fun p e s0 m args below meth c A ls X hl => t_M_boot X a1 s ls  hl)
set_option maxHeartbeats 4000000 in
set_option maxRecDepth 100000 in
theorem t_M_halted {p : Program} {l : Launch} {e : Env} {s0 : State} {m : MethodId} {args : Array Value} {below : List Frame} {meth : Method} {c : Code} {D : va_G} {A : Nat → Prop} {dI : Nat → ClassId} {ad : Nat → Nat} (X : CX p s0 m args meth c D vwCl (tyM dI) [] A prog_6_method_33_code 1 (some .boolean) (Cond.code y_M_halted prog_6_method_33_code 1 (some .boolean) :: WS) R_M)  (s : eS) (ls : Array Slot)  (hl : lv_has ls 1 [(0, .ref (ad 0))]) : GG p l e rm_M_halted s0 m args below meth c D vwCl (tyM dI) A (wM dI ad) 0 0 (QM below args s0 D vwCl (tyM dI) A (wM dI ad) rvI) (f_M_halted s) (F0 m 0 ls []) s := by
  unfold f_M_halted
  refine gg_aload_n X 0 d_M_halted_0 rfl (lv_at hl 0 rfl) ?_
  refine gg_get_M_stopped X 1 (Or.inl (List.mem_cons_of_mem _ w_373)) d_M_halted_1 ?_
  exact gg_zret X 4 d_M_halted_4
theorem M_M_halted (l : Launch) (D : va_G) (dI : Nat → ClassId) (ad : Nat → Nat) (s : eS)   {r : Int32} {s' : eS} (h : f_M_halted s = some (r, s')) (sz : Nat) : Met l y_M_halted (Cond.code y_M_halted prog_6_method_33_code 1 (some .boolean) :: WS) rm_M_halted (Px (wM dI ad) D vwCl (tyM dI) [] sz s [.ref (ad 0)]) (Qx rvI (wM dI ad) D vwCl (tyM dI) (va_A ((wM dI ad) s) sz) r s') 0 0 (va_A ((wM dI ad) s) sz) :=
  met_of [.ref (ad 0)] (by decide) rfl rfl (Nat.le_of_ble_eq_true rfl) h (fun p e s0 m args below meth c A ls X hl => t_M_halted X s ls  hl)
set_option maxHeartbeats 4000000 in
set_option maxRecDepth 100000 in
theorem t_M_call {p : Program} {l : Launch} {e : Env} {s0 : State} {m : MethodId} {args : Array Value} {below : List Frame} {meth : Method} {c : Code} {D : va_G} {A : Nat → Prop} {dI : Nat → ClassId} {ad : Nat → Nat} (X : CX p s0 m args meth c D vwCl (tyM dI) [] A prog_6_method_34_code 5 (some .int) (Cond.code y_M_call prog_6_method_34_code 5 (some .int) :: WS) R_M) (a1 : Int32) (a2 : Int32) (a3 : Int32) (a4 : Int32) (s : eS) (ls : Array Slot)  (hl : lv_has ls 5 [(0, .ref (ad 0)), (1, .int a1), (2, .int a2), (3, .int a3), (4, .int a4)]) : GG p l e rm_M_call s0 m args below meth c D vwCl (tyM dI) A (wM dI ad) 0 0 (QM below args s0 D vwCl (tyM dI) A (wM dI ad) rvI) (f_M_call a1 a2 a3 a4 s) (F0 m 0 ls []) s := by
  unfold f_M_call
  refine gg_aload_n X 0 d_M_call_0 rfl (lv_at hl 0 rfl) ?_
  refine gg_get_M_who X 1 (Or.inl (List.mem_cons_of_mem _ w_372)) d_M_call_1 ?_
  refine gg_bipush X 4 (6 : Int32) d_M_call_4 (by decide) ?_
  refine gg_icmp_ge X 6 14 d_M_call_6 rfl (fun _ => ?_) (fun _ => ?_)
  · refine gg_aload_n X 14 d_M_call_14 rfl (lv_at hl 0 rfl) ?_
    refine gg_iload_n X 15 d_M_call_15 rfl (lv_at hl 1 rfl) ?_
    refine gg_iload_n X 16 d_M_call_16 rfl (lv_at hl 2 rfl) ?_
    refine gg_iload_n X 17 d_M_call_17 rfl (lv_at hl 3 rfl) ?_
    refine gg_iload X 18 d_M_call_18 (lv_at hl 4 rfl) ?_
    refine gg_callV X 20 nwOk_M [.int a1, .int a2, .int a3, .int a4] [] (fun _ _ h sz => M_M_system l D dI ad _ a1 a2 a3 a4  h sz) (cwV 4 X.1.2.2.2.2 (gwV w_476 w_478 ws_M_system w_5 w_479) rfl rfl rfl (by decide +kernel) ⟨by decide, by decide⟩) (he_M_Main) rfl rfl hl.1 rfl (Nat.le_of_ble_eq_true rfl) ⟨Nat.zero_le _, Nat.zero_le _⟩ d_M_call_20 (fun r1 s2 ho3 => ?_)
    refine gg_show_i ?_
    exact gg_iret X 23 d_M_call_23
  · refine gg_bipush X 9 (-6 : Int32) d_M_call_9 (by decide) ?_
    refine gg_goto X 11 23 d_M_call_11 rfl ?_
    exact gg_iret X 23 d_M_call_23
theorem M_M_call (l : Launch) (D : va_G) (dI : Nat → ClassId) (ad : Nat → Nat) (s : eS) (a1 : Int32) (a2 : Int32) (a3 : Int32) (a4 : Int32)  {r : Int32} {s' : eS} (h : f_M_call a1 a2 a3 a4 s = some (r, s')) (sz : Nat) : Met l y_M_call (Cond.code y_M_call prog_6_method_34_code 5 (some .int) :: WS) rm_M_call (Px (wM dI ad) D vwCl (tyM dI) [] sz s [.ref (ad 0), .int a1, .int a2, .int a3, .int a4]) (Qx rvI (wM dI ad) D vwCl (tyM dI) (va_A ((wM dI ad) s) sz) r s') 0 0 (va_A ((wM dI ad) s) sz) :=
  met_of [.ref (ad 0), .int a1, .int a2, .int a3, .int a4] (by decide) rfl rfl (Nat.le_of_ble_eq_true rfl) h (fun p e s0 m args below meth c A ls X hl => t_M_call X a1 a2 a3 a4 s ls  hl)
set_option maxHeartbeats 4000000 in
set_option maxRecDepth 100000 in
theorem t_M_run_45 {p : Program} {l : Launch} {e : Env} {s0 : State} {m : MethodId} {args : Array Value} {below : List Frame} {meth : Method} {c : Code} {D : va_G} {A : Nat → Prop} {dI : Nat → ClassId} {ad : Nat → Nat} (X : CX p s0 m args meth c D vwCl (tyM dI) [] A prog_6_method_35_code 3 (some .int) (Cond.code y_M_run prog_6_method_35_code 3 (some .int) :: WS) R_M) (x2 : Int32) (s : eS) (ls : Array Slot)  (hl : lv_has ls 3 [(2, .int x2)]) : GG p l e rm_M_run s0 m args below meth c D vwCl (tyM dI) A (wM dI ad) 0 0 (QM below args s0 D vwCl (tyM dI) A (wM dI ad) rvI) (f_M_run_45 x2 s) (F0 m 45 ls []) s := by
  unfold f_M_run_45
  refine gg_iload_n X 45 d_M_run_45 rfl (lv_at hl 0 rfl) ?_
  exact gg_iret X 46 d_M_run_46
set_option maxHeartbeats 4000000 in
set_option maxRecDepth 100000 in
theorem t_M_run_14 {p : Program} {l : Launch} {e : Env} {s0 : State} {m : MethodId} {args : Array Value} {below : List Frame} {meth : Method} {c : Code} {D : va_G} {A : Nat → Prop} {dI : Nat → ClassId} {ad : Nat → Nat} (X : CX p s0 m args meth c D vwCl (tyM dI) [] A prog_6_method_35_code 3 (some .int) (Cond.code y_M_run prog_6_method_35_code 3 (some .int) :: WS) R_M) : ∀ (fl : Nat) (x1 : Int32) (x2 : Int32) (s : eS) (ls : Array Slot), lv_has ls 3 [(0, .ref (ad 0)), (1, .int x1), (2, .int x2)] → GG p l e rm_M_run s0 m args below meth c D vwCl (tyM dI) A (wM dI ad) 0 0 (QM below args s0 D vwCl (tyM dI) A (wM dI ad) rvI) (f_M_run_14 fl x1 x2 s) (F0 m 14 ls []) s := by
  intro fl
  induction fl with
  | zero =>
    intro x1 x2 s ls hl
    rw [f_M_run_14]
    exact gg_none
  | succ fl ih =>
    intro x1 x2 s ls hl
    rw [f_M_run_14]
    refine gg_iload_n X 14 d_M_run_14 rfl (lv_at hl 2 rfl) ?_
    refine gg_iload_n X 15 d_M_run_15 rfl (lv_at hl 1 rfl) ?_
    refine gg_icmp_ge X 16 45 d_M_run_16 rfl (fun _ => ?_) (fun _ => ?_)
    · exact t_M_run_45 X x2 s _  (lv_sub hl [2] rfl)
    · refine gg_aload_n X 19 d_M_run_19 rfl (lv_at hl 0 rfl) ?_
      refine gg_get_M_who X 20 (Or.inl (List.mem_cons_of_mem _ w_372)) d_M_run_20 ?_
      refine gg_bipush X 23 (6 : Int32) d_M_run_23 (by decide) ?_
      refine gg_icmp_ne X 25 35 d_M_run_25 rfl (fun _ => ?_) (fun _ => ?_)
      · refine gg_aload_n X 35 d_M_run_35 rfl (lv_at hl 0 rfl) ?_
        refine gg_callV X 36 nwOk_M [] [] (fun _ _ h sz => M_M_step l D dI ad _   h sz) (cwV 0 X.1.2.2.2.2 (gwV w_531 w_533 ws_M_step w_5 w_534) rfl rfl rfl (by decide +kernel) ⟨by decide, by decide⟩) (he_M_Main) rfl rfl hl.1 rfl (Nat.le_of_ble_eq_true rfl) ⟨Nat.zero_le _, Nat.zero_le _⟩ d_M_run_36 (fun r1 s2 ho3 => ?_)
        refine gg_show_v ?_
        refine gg_iinc X 39 (k := 2) (1 : Int32) (fun v4 => [(2, .int v4), (0, .ref (ad 0)), (1, .int x1)]) d_M_run_39 hl rfl (by decide) (by decide) (fun _ => rfl) (fun v4 ls hl => ?_)
        refine gg_goto X 42 14 d_M_run_42 rfl ?_
        exact ih x1 v4 s2 _  (lv_sub hl [1, 2, 0] rfl)
      · refine gg_aload_n X 28 d_M_run_28 rfl (lv_at hl 0 rfl) ?_
        refine gg_get_M_stopped X 29 (Or.inl (List.mem_cons_of_mem _ w_373)) d_M_run_29 ?_
        refine gg_if_ne X 32 45 d_M_run_32 rfl (fun _ => ?_) (fun _ => ?_)
        · exact t_M_run_45 X x2 s _  (lv_sub hl [2] rfl)
        · refine gg_aload_n X 35 d_M_run_35 rfl (lv_at hl 0 rfl) ?_
          refine gg_callV X 36 nwOk_M [] [] (fun _ _ h sz => M_M_step l D dI ad _   h sz) (cwV 0 X.1.2.2.2.2 (gwV w_531 w_533 ws_M_step w_5 w_534) rfl rfl rfl (by decide +kernel) ⟨by decide, by decide⟩) (he_M_Main) rfl rfl hl.1 rfl (Nat.le_of_ble_eq_true rfl) ⟨Nat.zero_le _, Nat.zero_le _⟩ d_M_run_36 (fun r5 s6 ho7 => ?_)
          refine gg_show_v ?_
          refine gg_iinc X 39 (k := 2) (1 : Int32) (fun v8 => [(2, .int v8), (0, .ref (ad 0)), (1, .int x1)]) d_M_run_39 hl rfl (by decide) (by decide) (fun _ => rfl) (fun v8 ls hl => ?_)
          refine gg_goto X 42 14 d_M_run_42 rfl ?_
          exact ih x1 v8 s6 _  (lv_sub hl [1, 2, 0] rfl)
set_option maxHeartbeats 4000000 in
set_option maxRecDepth 100000 in
theorem t_M_run {p : Program} {l : Launch} {e : Env} {s0 : State} {m : MethodId} {args : Array Value} {below : List Frame} {meth : Method} {c : Code} {D : va_G} {A : Nat → Prop} {dI : Nat → ClassId} {ad : Nat → Nat} (X : CX p s0 m args meth c D vwCl (tyM dI) [] A prog_6_method_35_code 3 (some .int) (Cond.code y_M_run prog_6_method_35_code 3 (some .int) :: WS) R_M) (a1 : Int32) (s : eS) (ls : Array Slot)  (hl : lv_has ls 3 [(0, .ref (ad 0)), (1, .int a1)]) : GG p l e rm_M_run s0 m args below meth c D vwCl (tyM dI) A (wM dI ad) 0 0 (QM below args s0 D vwCl (tyM dI) A (wM dI ad) rvI) (f_M_run a1 s) (F0 m 0 ls []) s := by
  unfold f_M_run
  refine gg_iconst X 0 (0 : Int32) d_M_run_0 (by decide) ?_
  refine gg_istore_n X 1 (fun v1 => [(2, .int v1), (0, .ref (ad 0)), (1, .int a1)]) d_M_run_1 rfl hl (by decide) (fun _ => rfl) (fun v1 ls hl => ?_)
  refine gg_iload_n X 2 d_M_run_2 rfl (lv_at hl 2 rfl) ?_
  refine gg_sipush X 3 (1000 : Int32) d_M_run_3 (by decide) ?_
  refine gg_callS X 6 nwOk_M [.int a1, .int (1000 : Int32)] [] (fun _ _ h sz => M_M_outside l D dI ad _ a1 (1000 : Int32)  h sz) (cwS 2 X.1.2.2.2.2 (gwS w_437 w_438 w_5 w_439) rfl rfl rfl (by decide +kernel) ⟨by decide, by decide⟩) rfl hl.1 rfl (Nat.le_of_ble_eq_true rfl) ⟨Nat.zero_le _, Nat.zero_le _⟩ d_M_run_6 (fun r2 s3 ho4 => ?_)
  refine gg_show_i ?_
  refine gg_if_eq X 9 14 d_M_run_9 rfl (fun _ => ?_) (fun _ => ?_)
  · exact t_M_run_14 X fu a1 v1 s3 _  (lv_sub hl [1, 2, 0] rfl)
  · refine gg_iconst X 12 (0 : Int32) d_M_run_12 (by decide) ?_
    exact gg_iret X 13 d_M_run_13
theorem M_M_run (l : Launch) (D : va_G) (dI : Nat → ClassId) (ad : Nat → Nat) (s : eS) (a1 : Int32)  {r : Int32} {s' : eS} (h : f_M_run a1 s = some (r, s')) (sz : Nat) : Met l y_M_run (Cond.code y_M_run prog_6_method_35_code 3 (some .int) :: WS) rm_M_run (Px (wM dI ad) D vwCl (tyM dI) [] sz s [.ref (ad 0), .int a1]) (Qx rvI (wM dI ad) D vwCl (tyM dI) (va_A ((wM dI ad) s) sz) r s') 0 0 (va_A ((wM dI ad) s) sz) :=
  met_of [.ref (ad 0), .int a1] (by decide) rfl rfl (Nat.le_of_ble_eq_true rfl) h (fun p e s0 m args below meth c A ls X hl => t_M_run X a1 s ls  hl)
