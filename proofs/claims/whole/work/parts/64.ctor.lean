theorem w_3 : Cond.initialized "EnclaveWarden$EnclaveThread" ∈ WS := ws_tbl (show _ ∈ tables_1 from List.mem_append_left _ (show _ ∈ tables_1_1 from List.mem_of_getElem? (i := 3) (by decide +kernel))) (by decide +kernel)
theorem w_11 : Cond.methodLink "EnclaveWarden" 1 ⟨"java/lang/Object", "<init>", "()V"⟩ ∈ WS := ws_tbl (show _ ∈ tables_1 from List.mem_append_left _ (show _ ∈ tables_1_1 from List.mem_of_getElem? (i := 11) (by decide +kernel))) (by decide +kernel)
theorem w_12 : Cond.instanceMethod ⟨"java/lang/Object", "<init>", "()V"⟩ ∈ WS := ws_tbl (show _ ∈ tables_1 from List.mem_append_left _ (show _ ∈ tables_1_1 from List.mem_of_getElem? (i := 12) (by decide +kernel))) (by decide +kernel)
theorem w_13 : Cond.code ⟨"java/lang/Object", "<init>", "()V"⟩ object_method_1_code 1 none ∈ WS := ws_tbl (show _ ∈ tables_1 from List.mem_append_left _ (show _ ∈ tables_1_1 from List.mem_of_getElem? (i := 13) rfl)) (by decide +kernel)
theorem w_14 : Cond.classLink "EnclaveWarden" 20 "EnclaveWarden$Enclave" ∈ WS := ws_tbl (show _ ∈ tables_1 from List.mem_append_left _ (show _ ∈ tables_1_1 from List.mem_of_getElem? (i := 14) (by decide +kernel))) (by decide +kernel)
theorem w_16 : Cond.instantiable "EnclaveWarden$Enclave" 4 ∈ WS := ws_tbl (show _ ∈ tables_1 from List.mem_append_left _ (show _ ∈ tables_1_1 from List.mem_of_getElem? (i := 16) (by decide +kernel))) (by decide +kernel)
theorem w_18 : Cond.instanceMethod ⟨"EnclaveWarden$Enclave", "<init>", "()V"⟩ ∈ WS := ws_tbl (show _ ∈ tables_1 from List.mem_append_left _ (show _ ∈ tables_1_1 from List.mem_of_getElem? (i := 18) (by decide +kernel))) (by decide +kernel)
theorem w_19 : Cond.code ⟨"EnclaveWarden$Enclave", "<init>", "()V"⟩ prog_3_method_1_code 2 none ∈ WS := ws_tbl (show _ ∈ tables_1 from List.mem_append_left _ (show _ ∈ tables_1_1 from List.mem_of_getElem? (i := 19) rfl)) (by decide +kernel)
theorem w_20 : Cond.methodLink "EnclaveWarden$Enclave" 3 ⟨"java/lang/Object", "<init>", "()V"⟩ ∈ WS := ws_tbl (show _ ∈ tables_1 from List.mem_append_left _ (show _ ∈ tables_1_1 from List.mem_of_getElem? (i := 20) (by decide +kernel))) (by decide +kernel)
theorem w_21 : Cond.classLink "EnclaveWarden$Enclave" 9 "EnclaveWarden$EnclaveThread" ∈ WS := ws_tbl (show _ ∈ tables_1 from List.mem_append_left _ (show _ ∈ tables_1_1 from List.mem_of_getElem? (i := 21) (by decide +kernel))) (by decide +kernel)
theorem w_23 : Cond.instantiable "EnclaveWarden$EnclaveThread" 3 ∈ WS := ws_tbl (show _ ∈ tables_1 from List.mem_append_left _ (show _ ∈ tables_1_1 from List.mem_of_getElem? (i := 23) (by decide +kernel))) (by decide +kernel)
theorem w_25 : Cond.instanceMethod ⟨"EnclaveWarden$EnclaveThread", "<init>", "()V"⟩ ∈ WS := ws_tbl (show _ ∈ tables_1 from List.mem_append_left _ (show _ ∈ tables_1_1 from List.mem_of_getElem? (i := 25) (by decide +kernel))) (by decide +kernel)
theorem w_26 : Cond.code ⟨"EnclaveWarden$EnclaveThread", "<init>", "()V"⟩ prog_4_method_1_code 1 none ∈ WS := ws_tbl (show _ ∈ tables_1 from List.mem_append_left _ (show _ ∈ tables_1_1 from List.mem_of_getElem? (i := 26) rfl)) (by decide +kernel)
theorem w_27 : Cond.methodLink "EnclaveWarden$EnclaveThread" 3 ⟨"java/lang/Object", "<init>", "()V"⟩ ∈ WS := ws_tbl (show _ ∈ tables_1 from List.mem_append_left _ (show _ ∈ tables_1_1 from List.mem_of_getElem? (i := 27) (by decide +kernel))) (by decide +kernel)
theorem w_28 : Cond.classLink "EnclaveWarden$EnclaveThread" 9 "EnclaveWarden$Core" ∈ WS := ws_tbl (show _ ∈ tables_1 from List.mem_append_left _ (show _ ∈ tables_1_1 from List.mem_of_getElem? (i := 28) (by decide +kernel))) (by decide +kernel)
theorem w_29 : Cond.instantiable "EnclaveWarden$Core" 2 ∈ WS := ws_tbl (show _ ∈ tables_1 from List.mem_append_left _ (show _ ∈ tables_1_1 from List.mem_of_getElem? (i := 29) (by decide +kernel))) (by decide +kernel)
theorem w_31 : Cond.instanceMethod ⟨"EnclaveWarden$Core", "<init>", "()V"⟩ ∈ WS := ws_tbl (show _ ∈ tables_1 from List.mem_append_left _ (show _ ∈ tables_1_1 from List.mem_of_getElem? (i := 31) (by decide +kernel))) (by decide +kernel)
theorem w_32 : Cond.code ⟨"EnclaveWarden$Core", "<init>", "()V"⟩ prog_2_method_1_code 1 none ∈ WS := ws_tbl (show _ ∈ tables_1 from List.mem_append_left _ (show _ ∈ tables_1_1 from List.mem_of_getElem? (i := 32) rfl)) (by decide +kernel)
theorem w_33 : Cond.methodLink "EnclaveWarden$Core" 3 ⟨"java/lang/Object", "<init>", "()V"⟩ ∈ WS := ws_tbl (show _ ∈ tables_1 from List.mem_append_left _ (show _ ∈ tables_1_1 from List.mem_of_getElem? (i := 33) (by decide +kernel))) (by decide +kernel)
theorem w_42 : Cond.arrayClass .int ∈ WS := ws_tbl (show _ ∈ tables_1 from List.mem_append_left _ (show _ ∈ tables_1_1 from List.mem_of_getElem? (i := 42) (by decide +kernel))) (by decide +kernel)
theorem w_43 : Cond.fieldLink "EnclaveWarden$EnclaveThread" 12 "EnclaveWarden$EnclaveThread" "core" "LEnclaveWarden$Core;" ∈ WS := ws_tbl (show _ ∈ tables_1 from List.mem_append_left _ (show _ ∈ tables_1_1 from List.mem_of_getElem? (i := 43) (by decide +kernel))) (by decide +kernel)
theorem w_45 : Cond.fieldLink "EnclaveWarden$EnclaveThread" 18 "EnclaveWarden$EnclaveThread" "state" "I" ∈ WS := ws_tbl (show _ ∈ tables_1 from List.mem_append_left _ (show _ ∈ tables_1_1 from List.mem_of_getElem? (i := 45) (by decide +kernel))) (by decide +kernel)
theorem w_48 : Cond.fieldLink "EnclaveWarden$EnclaveThread" 22 "EnclaveWarden$EnclaveThread" "entry" "I" ∈ WS := ws_tbl (show _ ∈ tables_1 from List.mem_append_left _ (show _ ∈ tables_1_1 from List.mem_of_getElem? (i := 48) (by decide +kernel))) (by decide +kernel)
theorem w_57 : Cond.methodLink "EnclaveWarden$Enclave" 18 ⟨"EnclaveWarden$Enclave", "become", "(I)V"⟩ ∈ WS := ws_tbl (show _ ∈ tables_1 from List.mem_append_left _ (show _ ∈ tables_1_1 from List.mem_of_getElem? (i := 57) (by decide +kernel))) (by decide +kernel)
theorem w_78 : Cond.classLink "EnclaveWarden" 27 "EnclaveWarden$Core" ∈ WS := ws_tbl (show _ ∈ tables_1 from List.mem_append_left _ (show _ ∈ tables_1_1 from List.mem_of_getElem? (i := 78) (by decide +kernel))) (by decide +kernel)
theorem w_357 : Cond.methodLink "EnclaveWardenModel" 1 ⟨"java/lang/Object", "<init>", "()V"⟩ ∈ WS := ws_tbl (show _ ∈ tables_1 from List.mem_append_right _ (List.mem_append_left _ (show _ ∈ tables_1_2 from List.mem_of_getElem? (i := 117) (by decide +kernel)))) (by decide +kernel)
theorem w_428 : Cond.arrayClass .boolean ∈ WS := ws_tbl (show _ ∈ tables_1 from List.mem_append_right _ (List.mem_append_left _ (show _ ∈ tables_1_2 from List.mem_of_getElem? (i := 188) (by decide +kernel)))) (by decide +kernel)
section GKS
variable {p : Program} {l : Launch} {e : Env} {R : Room} {s0 : State} {m : MethodId} {args : Array Value} {below : List Frame} {meth : Method} {c : Code} {D : va_G} {cl : List vw_C} {tys : List (ClassId × FieldType)} {nw : List Cond} {A : Nat → Prop} {σ : Type} {w : σ → va_W} {nc ns : Nat} {cc : ByteArray} {nL : Nat} {ret : Option FieldType} {Ts : List Cond} {own : String} {ρ : Type} {Q : ρ → σ → State → Prop} {res : Option (ρ × σ)} {ls : Array Slot} {rest : List Value} {s : σ}
theorem gk_ge_t (X : CX p s0 m args meth c D cl tys nw A cc nL ret Ts own) (pc : Nat) {x y : Int32} {off : Int} (tgt : Nat) (h : y ≤ x) (d : decode cc pc = .ok (.if_icmp .ge off, 3)) (ht : (pc : Int) + off = (tgt : Int)) (k : GG p l e R s0 m args below meth c D cl tys A w nc ns Q res (F0 m tgt ls rest) s) : GG p l e R s0 m args below meth c D cl tys A w nc ns Q res (F0 m pc ls (.int y :: .int x :: rest)) s := fun r s' hr H locs h1 h2 h3 => lv_icmp_ge X.1.1 X.1.2.1 d ht (fun _ => k r s' hr H locs h1 h2 h3) (fun q => absurd h q)
theorem gk_ge_f (X : CX p s0 m args meth c D cl tys nw A cc nL ret Ts own) (pc : Nat) {x y : Int32} {off : Int} (tgt : Nat) (h : ¬ y ≤ x) (d : decode cc pc = .ok (.if_icmp .ge off, 3)) (ht : (pc : Int) + off = (tgt : Int)) (k : GG p l e R s0 m args below meth c D cl tys A w nc ns Q res (F0 m (pc + 3) ls rest) s) : GG p l e R s0 m args below meth c D cl tys A w nc ns Q res (F0 m pc ls (.int y :: .int x :: rest)) s := fun r s' hr H locs h1 h2 h3 => lv_icmp_ge X.1.1 X.1.2.1 d ht (fun q => absurd q h) (fun _ => k r s' hr H locs h1 h2 h3)
theorem gk_istore_n (X : CX p s0 m args meth c D cl tys nw A cc nL ret Ts own) (pc : Nat) {kk : Fin 4} {i : Nat} {x : Int32} {lv : List (Nat × Value)} (lv' : List (Nat × Value)) (d : decode cc pc = .ok (.istore_n kk, 1)) (hi : (kk : Nat) = i) (h : lv_has ls nL lv) (hn : i < nL) (hl : (i, Value.int x) :: lv.filter (fun q => !(q.1 == i) && !(q.1 + 1 == i && q.2.category == 2)) = lv') (k : ∀ (ls : Array Slot), lv_has ls nL lv' → GG p l e R s0 m args below meth c D cl tys A w nc ns Q res (F0 m (pc + 1) ls rest) s) : GG p l e R s0 m args below meth c D cl tys A w nc ns Q res (F0 m pc ls (.int x :: rest)) s := fun r s' hr H locs h1 h2 h3 => lv_istore_n X.1.1 X.1.2.1 d hi h hn hl (fun ls' hls => k ls' hls r s' hr H locs h1 h2 h3)
theorem gk_iinc (X : CX p s0 m args meth c D cl tys nw A cc nL ret Ts own) (pc : Nat) {i k : Nat} {n : Int} {x : Int32} (v : Int32) {lv : List (Nat × Value)} (lv' : List (Nat × Value)) (d : decode cc pc = .ok (.iinc i n, 3)) (h : lv_has ls nL lv) (hk : lv[k]? = some (i, .int x)) (hv : x + Int32.ofInt n = v) (hn : i < nL) (hl : (i, Value.int v) :: lv.filter (fun q => !(q.1 == i) && !(q.1 + 1 == i && q.2.category == 2)) = lv') (kk : ∀ (ls : Array Slot), lv_has ls nL lv' → GG p l e R s0 m args below meth c D cl tys A w nc ns Q res (F0 m (pc + 3) ls rest) s) : GG p l e R s0 m args below meth c D cl tys A w nc ns Q res (F0 m pc ls rest) s := fun r s' hr H locs h1 h2 h3 => lv_iinc X.1.1 X.1.2.1 d h hk hv hn hl (fun ls' hls => kk ls' hls r s' hr H locs h1 h2 h3)
theorem gk_aald (X : CX p s0 m args meth c D cl tys nw A cc nL ret Ts own) (pc : Nat) {q0 t0 a n v : Nat} {cA : ClassId} {C : String} {f : Nat → Option Nat} {i : Int32} (he : (w s)[q0]? = some (a, .inl (cA, n, .inr (.inr (.inr (.inr f)))))) (ht : tys[t0]? = some (cA, .object C)) (hin : vp_in i n) (hv : f i.toNatClampNeg = some v) (d : decode cc pc = .ok (.aaload, 1)) (kk : GG p l e R s0 m args below meth c D cl tys A w nc ns Q res (F0 m (pc + 1) ls (.ref v :: rest)) s) : GG p l e R s0 m args below meth c D cl tys A w nc ns Q res (F0 m pc ls (.int i :: .ref a :: rest)) s := fun r s' hr H locs h1 h2 h3 => va_aldq X.1.1 X.1.2.1 X.2.2.2.1 h1 q0 t0 he ht hin d (by rw [hv]; exact kk r s' hr H locs h1 h2 h3)
theorem gz_conv {g : JFrame} (s2 : σ) (hP : ∀ H, va_P D cl (w s) H → va_P D cl (w s2) H) (hD : va_D A (w s) → va_D A (w s2)) (k : GG p l e R s0 m args below meth c D cl tys A w nc ns Q res g s2) : GG p l e R s0 m args below meth c D cl tys A w nc ns Q res g s := fun r s' hr H locs h1 h2 h3 => k r s' hr H locs (hP H h1) (hD h2) h3
end GKS
abbrev y_C_init : MethodName := ⟨"EnclaveWarden$Core", "<init>", "()V"⟩
abbrev rm_C_init : Room := { frames := 1, cells := 1, slots := 8, locals := 12 }
set_option maxHeartbeats 8000000 in
set_option maxRecDepth 100000 in
theorem M_C_init (l : Launch) (D : va_G) (dI : Nat → ClassId) (h : Nat) (sz : Nat) : Met l y_C_init (Cond.code y_C_init prog_2_method_1_code 1 none :: WS) rm_C_init (Pz D dI sz [(h, .inr (3, [.null, .int 0]))] [.ref h]) (Qz D dI (va_A [(h, .inr (3, [.null, .int 0]))] sz) (fun w' => ∃ r0 : Nat, w' = [(h, .inr (3, [.ref r0, .int 0])), (r0, .inl (dI 0, 8, .inl (fun _ => 0)))])) 1 8 (va_A [(h, .inr (3, [.null, .int 0]))] sz) := by
  refine met_ctor [.ref h] (by decide) rfl rfl (Nat.le_of_ble_eq_true rfl) rfl (fun p e s0 m args below meth c A ls X hnm hao hl => ?_)
  have hl : lv_has ls 1 [(0, .ref h)] := hl
  refine gg_aload_n X 0 d_C_init_0 rfl (lv_at hl 0 rfl) ?_
  refine gz_obj X 1 (List.mem_cons_of_mem _ w_33) (List.mem_cons_of_mem _ w_12) (List.mem_cons_of_mem _ w_13) hl.1 d_C_init_1 (by decide) (Nat.le_of_ble_eq_true rfl) ?_
  refine gg_aload_n X 4 d_C_init_4 rfl (lv_at hl 0 rfl) ?_
  refine gg_bipush X 5 (8 : Int32) d_C_init_5 (by decide) ?_
  refine gz_newi X 7 8 (List.mem_cons_of_mem _ w_42) (by decide) (by decide) (by decide) (by decide) (by decide) d_C_init_7 (fun q7 => ?_)
  refine gz_eq [(h, .inr (3, [.null, .int 0])), (q7, .inl (dI 0, 8, .inl (fun _ => 0)))] rfl ?_
  refine gz_cnt 1 8 rfl rfl ?_
  refine gz_putF X 9 0 0 (.array .int) [(h, .inr (3, [.ref q7, .int 0])), (q7, .inl (dI 0, 8, .inl (fun _ => 0)))] uw_C ty_C tyok_C nm_C rfl rfl (by decide) rfl hnm rfl (by decide +kernel) (Nat.le_of_ble_eq_true rfl) (List.mem_cons_of_mem _ w_34) rfl rfl rfl d_C_init_9 ?_
  refine gg_aload_n X 12 d_C_init_12 rfl (lv_at hl 0 rfl) ?_
  refine gg_iconst X 13 (0 : Int32) d_C_init_13 (by decide) ?_
  refine gz_put X 14 0 1 (.int) [(h, .inr (3, [.ref q7, .int (0 : Int32)])), (q7, .inl (dI 0, 8, .inl (fun _ => 0)))] uw_C ty_C tyok_C nm_C rfl rfl (by decide) rfl (by decide +kernel) (Nat.le_of_ble_eq_true rfl) (Or.inl (List.mem_cons_of_mem _ w_35)) rfl rfl rfl d_C_init_14 ?_
  exact gz_vret X 17 ⟨q7, rfl⟩ d_C_init_17
abbrev y_T_init : MethodName := ⟨"EnclaveWarden$EnclaveThread", "<init>", "()V"⟩
abbrev rm_T_init : Room := { frames := 2, cells := 2, slots := 10, locals := 32 }
set_option maxHeartbeats 8000000 in
set_option maxRecDepth 100000 in
theorem M_T_init (l : Launch) (D : va_G) (dI : Nat → ClassId) (h : Nat) (sz : Nat) : Met l y_T_init (Cond.code y_T_init prog_4_method_1_code 1 none :: WS) rm_T_init (Pz D dI sz [(h, .inr (2, [.null, .int 0, .int 0]))] [.ref h]) (Qz D dI (va_A [(h, .inr (2, [.null, .int 0, .int 0]))] sz) (fun w' => ∃ c0 r0 : Nat, w' = [(h, .inr (2, [.ref c0, .int 0, .int 0])), (c0, .inr (3, [.ref r0, .int 0])), (r0, .inl (dI 0, 8, .inl (fun _ => 0)))])) 2 10 (va_A [(h, .inr (2, [.null, .int 0, .int 0]))] sz) := by
  refine met_ctor [.ref h] (by decide) rfl rfl (Nat.le_of_ble_eq_true rfl) rfl (fun p e s0 m args below meth c A ls X hnm hao hl => ?_)
  have hl : lv_has ls 1 [(0, .ref h)] := hl
  refine gg_aload_n X 0 d_T_init_0 rfl (lv_at hl 0 rfl) ?_
  refine gz_obj X 1 (List.mem_cons_of_mem _ w_27) (List.mem_cons_of_mem _ w_12) (List.mem_cons_of_mem _ w_13) hl.1 d_T_init_1 (by decide) (Nat.le_of_ble_eq_true rfl) ?_
  refine gg_aload_n X 4 d_T_init_4 rfl (lv_at hl 0 rfl) ?_
  refine gz_new X 5 (ci := 3) [.null, .int 0] uw_C ty_C tyok_C (List.mem_cons_of_mem _ w_28) (List.mem_cons_of_mem _ w_29) (List.mem_cons_of_mem _ w_4) rfl (fun j hj => by rcases (show j = 0 ∨ j = 1 by omega) with rfl | rfl <;> rfl) (by decide) (by decide) d_T_init_5 (fun n1 => ?_)
  refine gz_cnt 1 2 rfl rfl ?_
  refine gg_dup X 8 d_T_init_8 rfl ?_
  refine gz_ctorN X 9 (w1 := [(h, .inr (2, [.null, .int 0, .int 0]))]) [] [.ref n1, .ref h] hao (fun sz => M_C_init l D dI n1 sz) ⟨va_cnB 0 X.1.2.2.2.2 (gwB w_32) rfl rfl rfl (X.2.2.2.2.2 _ nw_2) (X.1.2.2.2.2 _ (List.mem_cons_of_mem _ w_4)) (by decide +kernel) ⟨by decide, by decide⟩, rfl, X.1.2.2.2.2 _ (List.mem_cons_of_mem _ w_31)⟩ rfl hl.1 rfl (Nat.le_of_ble_eq_true rfl) (by decide) d_T_init_9 (fun w' hw' => ?_)
  obtain ⟨r2, rfl⟩ := hw'
  refine gz_eq [(h, .inr (2, [.null, .int 0, .int 0])), (n1, .inr (3, [.ref r2, .int 0])), (r2, .inl (dI 0, 8, .inl (fun _ => 0)))] rfl ?_
  refine gz_cnt 2 10 rfl rfl ?_
  refine gz_putF X 12 0 0 (.object "EnclaveWarden$Core") [(h, .inr (2, [.ref n1, .int 0, .int 0])), (n1, .inr (3, [.ref r2, .int 0])), (r2, .inl (dI 0, 8, .inl (fun _ => 0)))] uw_T ty_T tyok_T nm_T rfl rfl (by decide) rfl hnm rfl (by decide +kernel) (Nat.le_of_ble_eq_true rfl) (List.mem_cons_of_mem _ w_43) rfl rfl rfl d_T_init_12 ?_
  refine gg_aload_n X 15 d_T_init_15 rfl (lv_at hl 0 rfl) ?_
  refine gg_iconst X 16 (0 : Int32) d_T_init_16 (by decide) ?_
  refine gz_put X 17 0 1 (.int) [(h, .inr (2, [.ref n1, .int (0 : Int32), .int 0])), (n1, .inr (3, [.ref r2, .int 0])), (r2, .inl (dI 0, 8, .inl (fun _ => 0)))] uw_T ty_T tyok_T nm_T rfl rfl (by decide) rfl (by decide +kernel) (Nat.le_of_ble_eq_true rfl) (Or.inl (List.mem_cons_of_mem _ w_45)) rfl rfl rfl d_T_init_17 ?_
  refine gg_aload_n X 20 d_T_init_20 rfl (lv_at hl 0 rfl) ?_
  refine gg_iconst X 21 (0 : Int32) d_T_init_21 (by decide) ?_
  refine gz_put X 22 0 2 (.int) [(h, .inr (2, [.ref n1, .int (0 : Int32), .int (0 : Int32)])), (n1, .inr (3, [.ref r2, .int 0])), (r2, .inl (dI 0, 8, .inl (fun _ => 0)))] uw_T ty_T tyok_T nm_T rfl rfl (by decide) rfl (by decide +kernel) (Nat.le_of_ble_eq_true rfl) (Or.inl (List.mem_cons_of_mem _ w_48)) rfl rfl rfl d_T_init_22 ?_
  exact gz_vret X 25 ⟨n1, r2, rfl⟩ d_T_init_25
set_option maxHeartbeats 4000000 in
set_option maxRecDepth 100000 in
theorem M_V_become8 (l : Launch) (D : va_G) (dI : Nat → ClassId) (h ta0 at0 ac0 ar0 bt0 bc0 br0 : Nat) (sz : Nat) : Met l y_V_become (Cond.code y_V_become prog_3_method_2_code 3 none :: WS) rm_V_become (Px (fun z : va_W => z) D vwCl (tyE dI) nwE sz [(h, .inr (1, [.ref ta0, .int 0, .int 0, .int 0])), (ta0, .inl (dI 3, 2, .inr (.inr (.inr (.inr (va_up (va_up (fun _ => none) (Int32.toNatClampNeg (0 : Int32)) (some at0)) (Int32.toNatClampNeg (1 : Int32)) (some bt0))))))), (at0, .inr (2, [.ref ac0, .int 0, .int 0])), (ac0, .inr (3, [.ref ar0, .int 0])), (ar0, .inl (dI 0, 8, .inl (fun _ => 0))), (bt0, .inr (2, [.ref bc0, .int 0, .int 0])), (bc0, .inr (3, [.ref br0, .int 0])), (br0, .inl (dI 0, 8, .inl (fun _ => 0)))] [.ref h, .int 0]) (Qx rvV (fun z : va_W => z) D vwCl (tyE dI) (va_A [(h, .inr (1, [.ref ta0, .int 0, .int 0, .int 0])), (ta0, .inl (dI 3, 2, .inr (.inr (.inr (.inr (va_up (va_up (fun _ => none) (Int32.toNatClampNeg (0 : Int32)) (some at0)) (Int32.toNatClampNeg (1 : Int32)) (some bt0))))))), (at0, .inr (2, [.ref ac0, .int 0, .int 0])), (ac0, .inr (3, [.ref ar0, .int 0])), (ar0, .inl (dI 0, 8, .inl (fun _ => 0))), (bt0, .inr (2, [.ref bc0, .int 0, .int 0])), (bc0, .inr (3, [.ref br0, .int 0])), (br0, .inl (dI 0, 8, .inl (fun _ => 0)))] sz) () [(h, .inr (1, [.ref ta0, .int 0, .int 0, .int 0])), (ta0, .inl (dI 3, 2, .inr (.inr (.inr (.inr (va_up (va_up (fun _ => none) (Int32.toNatClampNeg (0 : Int32)) (some at0)) (Int32.toNatClampNeg (1 : Int32)) (some bt0))))))), (at0, .inr (2, [.ref ac0, .int 0, .int 0])), (ac0, .inr (3, [.ref ar0, .int 0])), (ar0, .inl (dI 0, 8, .inl (fun _ => 0))), (bt0, .inr (2, [.ref bc0, .int 0, .int 0])), (bc0, .inr (3, [.ref br0, .int 0])), (br0, .inl (dI 0, 8, .inl (fun _ => 0)))]) 0 0 (va_A [(h, .inr (1, [.ref ta0, .int 0, .int 0, .int 0])), (ta0, .inl (dI 3, 2, .inr (.inr (.inr (.inr (va_up (va_up (fun _ => none) (Int32.toNatClampNeg (0 : Int32)) (some at0)) (Int32.toNatClampNeg (1 : Int32)) (some bt0))))))), (at0, .inr (2, [.ref ac0, .int 0, .int 0])), (ac0, .inr (3, [.ref ar0, .int 0])), (ar0, .inl (dI 0, 8, .inl (fun _ => 0))), (bt0, .inr (2, [.ref bc0, .int 0, .int 0])), (bc0, .inr (3, [.ref br0, .int 0])), (br0, .inl (dI 0, 8, .inl (fun _ => 0)))] sz) := by
  refine met_of (res := some ((), [(h, .inr (1, [.ref ta0, .int 0, .int 0, .int 0])), (ta0, .inl (dI 3, 2, .inr (.inr (.inr (.inr (va_up (va_up (fun _ => none) (Int32.toNatClampNeg (0 : Int32)) (some at0)) (Int32.toNatClampNeg (1 : Int32)) (some bt0))))))), (at0, .inr (2, [.ref ac0, .int 0, .int 0])), (ac0, .inr (3, [.ref ar0, .int 0])), (ar0, .inl (dI 0, 8, .inl (fun _ => 0))), (bt0, .inr (2, [.ref bc0, .int 0, .int 0])), (bc0, .inr (3, [.ref br0, .int 0])), (br0, .inl (dI 0, 8, .inl (fun _ => 0)))])) [.ref h, .int 0] (by decide) rfl rfl (Nat.le_of_ble_eq_true rfl) rfl (fun p e s0 m args below meth c A ls X hl => ?_)
  have hl : lv_has ls 3 [(0, .ref h), (1, .int 0)] := hl
  refine gg_aload_n X 0 d_V_become_0 rfl (lv_at hl 0 rfl) ?_
  refine gg_iload_n X 1 d_V_become_1 rfl (lv_at hl 1 rfl) ?_
  refine gz_put X 2 0 1 (.int) [(h, .inr (1, [.ref ta0, .int (0 : Int32), .int 0, .int 0])), (ta0, .inl (dI 3, 2, .inr (.inr (.inr (.inr (va_up (va_up (fun _ => none) (Int32.toNatClampNeg (0 : Int32)) (some at0)) (Int32.toNatClampNeg (1 : Int32)) (some bt0))))))), (at0, .inr (2, [.ref ac0, .int 0, .int 0])), (ac0, .inr (3, [.ref ar0, .int 0])), (ar0, .inl (dI 0, 8, .inl (fun _ => 0))), (bt0, .inr (2, [.ref bc0, .int 0, .int 0])), (bc0, .inr (3, [.ref br0, .int 0])), (br0, .inl (dI 0, 8, .inl (fun _ => 0)))] uw_V ty_V tyok_V nm_V rfl rfl (by decide) rfl (by decide +kernel) (Nat.le_of_ble_eq_true rfl) (Or.inl (List.mem_cons_of_mem _ w_63)) rfl rfl rfl d_V_become_2 ?_
  refine gg_aload_n X 5 d_V_become_5 rfl (lv_at hl 0 rfl) ?_
  refine gg_iconst X 6 (0 : Int32) d_V_become_6 (by decide) ?_
  refine gz_put X 7 0 2 (.int) [(h, .inr (1, [.ref ta0, .int (0 : Int32), .int (0 : Int32), .int 0])), (ta0, .inl (dI 3, 2, .inr (.inr (.inr (.inr (va_up (va_up (fun _ => none) (Int32.toNatClampNeg (0 : Int32)) (some at0)) (Int32.toNatClampNeg (1 : Int32)) (some bt0))))))), (at0, .inr (2, [.ref ac0, .int 0, .int 0])), (ac0, .inr (3, [.ref ar0, .int 0])), (ar0, .inl (dI 0, 8, .inl (fun _ => 0))), (bt0, .inr (2, [.ref bc0, .int 0, .int 0])), (bc0, .inr (3, [.ref br0, .int 0])), (br0, .inl (dI 0, 8, .inl (fun _ => 0)))] uw_V ty_V tyok_V nm_V rfl rfl (by decide) rfl (by decide +kernel) (Nat.le_of_ble_eq_true rfl) (Or.inl (List.mem_cons_of_mem _ w_65)) rfl rfl rfl d_V_become_7 ?_
  refine gg_aload_n X 10 d_V_become_10 rfl (lv_at hl 0 rfl) ?_
  refine gg_iconst X 11 (0 : Int32) d_V_become_11 (by decide) ?_
  refine gz_put X 12 0 3 (.int) [(h, .inr (1, [.ref ta0, .int (0 : Int32), .int (0 : Int32), .int (0 : Int32)])), (ta0, .inl (dI 3, 2, .inr (.inr (.inr (.inr (va_up (va_up (fun _ => none) (Int32.toNatClampNeg (0 : Int32)) (some at0)) (Int32.toNatClampNeg (1 : Int32)) (some bt0))))))), (at0, .inr (2, [.ref ac0, .int 0, .int 0])), (ac0, .inr (3, [.ref ar0, .int 0])), (ar0, .inl (dI 0, 8, .inl (fun _ => 0))), (bt0, .inr (2, [.ref bc0, .int 0, .int 0])), (bc0, .inr (3, [.ref br0, .int 0])), (br0, .inl (dI 0, 8, .inl (fun _ => 0)))] uw_V ty_V tyok_V nm_V rfl rfl (by decide) rfl (by decide +kernel) (Nat.le_of_ble_eq_true rfl) (Or.inl (List.mem_cons_of_mem _ w_67)) rfl rfl rfl d_V_become_12 ?_
  refine gg_iconst X 15 (0 : Int32) d_V_become_15 (by decide) ?_
  refine gk_istore_n X 16 [(2, .int (0 : Int32)), (0, .ref h), (1, .int (0 : Int32))] d_V_become_16 rfl hl (by decide) rfl (fun ls hl => ?_)
  refine gg_iload_n X 17 d_V_become_17 rfl (lv_at hl 0 rfl) ?_
  refine gg_iconst X 18 (2 : Int32) d_V_become_18 (by decide) ?_
  refine gk_ge_f X 19 38 (by decide) d_V_become_19 rfl ?_
  refine gg_aload_n X 22 d_V_become_22 rfl (lv_at hl 1 rfl) ?_
  refine gg_get X 23 (q0 := 0) (k := 0) uw_V rfl rfl (by decide) rfl (Or.inl (List.mem_cons_of_mem _ w_61)) d_V_become_23 ?_
  refine gg_iload_n X 26 d_V_become_26 rfl (lv_at hl 0 rfl) ?_
  refine gk_aald X 27 (q0 := 1) (t0 := 3) (v := at0) rfl rfl (by unfold vp_in; decide) rfl d_V_become_27 ?_
  refine gg_iconst X 28 (0 : Int32) d_V_become_28 (by decide) ?_
  refine gz_put X 29 2 1 (.int) [(h, .inr (1, [.ref ta0, .int (0 : Int32), .int (0 : Int32), .int (0 : Int32)])), (ta0, .inl (dI 3, 2, .inr (.inr (.inr (.inr (va_up (va_up (fun _ => none) (Int32.toNatClampNeg (0 : Int32)) (some at0)) (Int32.toNatClampNeg (1 : Int32)) (some bt0))))))), (at0, .inr (2, [.ref ac0, .int (0 : Int32), .int 0])), (ac0, .inr (3, [.ref ar0, .int 0])), (ar0, .inl (dI 0, 8, .inl (fun _ => 0))), (bt0, .inr (2, [.ref bc0, .int 0, .int 0])), (bc0, .inr (3, [.ref br0, .int 0])), (br0, .inl (dI 0, 8, .inl (fun _ => 0)))] uw_T ty_T tyok_T nm_T rfl rfl (by decide) rfl (by decide +kernel) (Nat.le_of_ble_eq_true rfl) (Or.inr ⟨_, nw_5⟩) rfl rfl rfl d_V_become_29 ?_
  refine gk_iinc X 32 (k := 0) (1 : Int32) [(2, .int (1 : Int32)), (0, .ref h), (1, .int (0 : Int32))] d_V_become_32 hl rfl (by decide) (by decide) rfl (fun ls hl => ?_)
  refine gg_goto X 35 17 d_V_become_35 rfl ?_
  refine gg_iload_n X 17 d_V_become_17 rfl (lv_at hl 0 rfl) ?_
  refine gg_iconst X 18 (2 : Int32) d_V_become_18 (by decide) ?_
  refine gk_ge_f X 19 38 (by decide) d_V_become_19 rfl ?_
  refine gg_aload_n X 22 d_V_become_22 rfl (lv_at hl 1 rfl) ?_
  refine gg_get X 23 (q0 := 0) (k := 0) uw_V rfl rfl (by decide) rfl (Or.inl (List.mem_cons_of_mem _ w_61)) d_V_become_23 ?_
  refine gg_iload_n X 26 d_V_become_26 rfl (lv_at hl 0 rfl) ?_
  refine gk_aald X 27 (q0 := 1) (t0 := 3) (v := bt0) rfl rfl (by unfold vp_in; decide) rfl d_V_become_27 ?_
  refine gg_iconst X 28 (0 : Int32) d_V_become_28 (by decide) ?_
  refine gz_put X 29 5 1 (.int) [(h, .inr (1, [.ref ta0, .int (0 : Int32), .int (0 : Int32), .int (0 : Int32)])), (ta0, .inl (dI 3, 2, .inr (.inr (.inr (.inr (va_up (va_up (fun _ => none) (Int32.toNatClampNeg (0 : Int32)) (some at0)) (Int32.toNatClampNeg (1 : Int32)) (some bt0))))))), (at0, .inr (2, [.ref ac0, .int (0 : Int32), .int 0])), (ac0, .inr (3, [.ref ar0, .int 0])), (ar0, .inl (dI 0, 8, .inl (fun _ => 0))), (bt0, .inr (2, [.ref bc0, .int (0 : Int32), .int 0])), (bc0, .inr (3, [.ref br0, .int 0])), (br0, .inl (dI 0, 8, .inl (fun _ => 0)))] uw_T ty_T tyok_T nm_T rfl rfl (by decide) rfl (by decide +kernel) (Nat.le_of_ble_eq_true rfl) (Or.inr ⟨_, nw_5⟩) rfl rfl rfl d_V_become_29 ?_
  refine gk_iinc X 32 (k := 0) (2 : Int32) [(2, .int (2 : Int32)), (0, .ref h), (1, .int (0 : Int32))] d_V_become_32 hl rfl (by decide) (by decide) rfl (fun ls hl => ?_)
  refine gg_goto X 35 17 d_V_become_35 rfl ?_
  refine gg_iload_n X 17 d_V_become_17 rfl (lv_at hl 0 rfl) ?_
  refine gg_iconst X 18 (2 : Int32) d_V_become_18 (by decide) ?_
  refine gk_ge_t X 19 38 (by decide) d_V_become_19 rfl ?_
  exact gg_vret X 38 d_V_become_38
abbrev y_V_init : MethodName := ⟨"EnclaveWarden$Enclave", "<init>", "()V"⟩
abbrev rm_V_init : Room := { frames := 3, cells := 7, slots := 28, locals := 52 }
set_option maxHeartbeats 8000000 in
set_option maxRecDepth 100000 in
theorem M_V_init (l : Launch) (D : va_G) (dI : Nat → ClassId) (h : Nat) (sz : Nat) : Met l y_V_init (Cond.code y_V_init prog_3_method_1_code 2 none :: WS) rm_V_init (Pz D dI sz [(h, .inr (1, [.null, .int 0, .int 0, .int 0]))] [.ref h]) (Qz D dI (va_A [(h, .inr (1, [.null, .int 0, .int 0, .int 0]))] sz) (fun w' => ∃ ta0 at0 ac0 ar0 bt0 bc0 br0 : Nat, w' = [(h, .inr (1, [.ref ta0, .int 0, .int 0, .int 0])), (ta0, .inl (dI 3, 2, .inr (.inr (.inr (.inr (va_up (va_up (fun _ => none) (Int32.toNatClampNeg (0 : Int32)) (some at0)) (Int32.toNatClampNeg (1 : Int32)) (some bt0))))))), (at0, .inr (2, [.ref ac0, .int 0, .int 0])), (ac0, .inr (3, [.ref ar0, .int 0])), (ar0, .inl (dI 0, 8, .inl (fun _ => 0))), (bt0, .inr (2, [.ref bc0, .int 0, .int 0])), (bc0, .inr (3, [.ref br0, .int 0])), (br0, .inl (dI 0, 8, .inl (fun _ => 0)))])) 7 28 (va_A [(h, .inr (1, [.null, .int 0, .int 0, .int 0]))] sz) := by
  refine met_ctor [.ref h] (by decide) rfl rfl (Nat.le_of_ble_eq_true rfl) rfl (fun p e s0 m args below meth c A ls X hnm hao hl => ?_)
  have hl : lv_has ls 2 [(0, .ref h)] := hl
  refine gg_aload_n X 0 d_V_init_0 rfl (lv_at hl 0 rfl) ?_
  refine gz_obj X 1 (List.mem_cons_of_mem _ w_20) (List.mem_cons_of_mem _ w_12) (List.mem_cons_of_mem _ w_13) hl.1 d_V_init_1 (by decide) (Nat.le_of_ble_eq_true rfl) ?_
  refine gg_aload_n X 4 d_V_init_4 rfl (lv_at hl 0 rfl) ?_
  refine gg_iconst X 5 (2 : Int32) d_V_init_5 (by decide) ?_
  refine gz_newq X 6 3 2 rfl (List.mem_cons_of_mem _ w_21) hao.2 (by decide) (by decide) (by decide) (by decide) (by decide) d_V_init_6 (fun q6 => ?_)
  refine gz_eq [(h, .inr (1, [.null, .int 0, .int 0, .int 0])), (q6, .inl (dI 3, 2, .inr (.inr (.inr (.inr (fun _ => none))))))] rfl ?_
  refine gz_cnt 1 2 rfl rfl ?_
  refine gz_putF X 9 0 0 (.array (.object "EnclaveWarden$EnclaveThread")) [(h, .inr (1, [.ref q6, .int 0, .int 0, .int 0])), (q6, .inl (dI 3, 2, .inr (.inr (.inr (.inr (fun _ => none))))))] uw_V ty_V tyok_V nm_V rfl rfl (by decide) rfl hnm rfl (by decide +kernel) (Nat.le_of_ble_eq_true rfl) (List.mem_cons_of_mem _ w_61) rfl rfl rfl d_V_init_9 ?_
  refine gg_iconst X 12 (0 : Int32) d_V_init_12 (by decide) ?_
  refine gk_istore_n X 13 [(1, .int (0 : Int32)), (0, .ref h)] d_V_init_13 rfl hl (by decide) rfl (fun ls hl => ?_)
  refine gg_iload_n X 14 d_V_init_14 rfl (lv_at hl 0 rfl) ?_
  refine gg_iconst X 15 (2 : Int32) d_V_init_15 (by decide) ?_
  refine gk_ge_f X 16 38 (by decide) d_V_init_16 rfl ?_
  refine gg_aload_n X 19 d_V_init_19 rfl (lv_at hl 1 rfl) ?_
  refine gg_get X 20 (q0 := 0) (k := 0) uw_V rfl rfl (by decide) rfl (Or.inl (List.mem_cons_of_mem _ w_61)) d_V_init_20 ?_
  refine gg_iload_n X 23 d_V_init_23 rfl (lv_at hl 0 rfl) ?_
  refine gz_new X 24 (ci := 2) [.null, .int 0, .int 0] uw_T ty_T tyok_T (List.mem_cons_of_mem _ w_21) (List.mem_cons_of_mem _ w_23) (List.mem_cons_of_mem _ w_3) rfl (fun j hj => by rcases (show j = 0 ∨ j = 1 ∨ j = 2 by omega) with rfl | rfl | rfl <;> rfl) (by decide) (by decide) d_V_init_24 (fun n3 => ?_)
  refine gz_cnt 2 5 rfl rfl ?_
  refine gg_dup X 27 d_V_init_27 rfl ?_
  refine gz_ctorN X 28 (w1 := [(h, .inr (1, [.ref q6, .int 0, .int 0, .int 0])), (q6, .inl (dI 3, 2, .inr (.inr (.inr (.inr (fun _ => none))))))]) [] [.ref n3, .int (0 : Int32), .ref q6] hao (fun sz => M_T_init l D dI n3 sz) ⟨va_cnB 0 X.1.2.2.2.2 (gwB w_26) rfl rfl rfl (X.2.2.2.2.2 _ nw_1) (X.1.2.2.2.2 _ (List.mem_cons_of_mem _ w_3)) (by decide +kernel) ⟨by decide, by decide⟩, rfl, X.1.2.2.2.2 _ (List.mem_cons_of_mem _ w_25)⟩ rfl hl.1 rfl (Nat.le_of_ble_eq_true rfl) (by decide) d_V_init_28 (fun w' hw' => ?_)
  obtain ⟨c4, r4, rfl⟩ := hw'
  refine gz_eq [(h, .inr (1, [.ref q6, .int 0, .int 0, .int 0])), (q6, .inl (dI 3, 2, .inr (.inr (.inr (.inr (fun _ => none)))))), (n3, .inr (2, [.ref c4, .int 0, .int 0])), (c4, .inr (3, [.ref r4, .int 0])), (r4, .inl (dI 0, 8, .inl (fun _ => 0)))] rfl ?_
  refine gz_cnt 4 15 rfl rfl ?_
  refine gz_aast X 31 1 3 2 2 [(h, .inr (1, [.ref q6, .int 0, .int 0, .int 0])), (q6, .inl (dI 3, 2, .inr (.inr (.inr (.inr (va_up (fun _ => none) (Int32.toNatClampNeg (0 : Int32)) (some n3))))))), (n3, .inr (2, [.ref c4, .int 0, .int 0])), (c4, .inr (3, [.ref r4, .int 0])), (r4, .inl (dI 0, 8, .inl (fun _ => 0)))] rfl rfl rfl rfl (by unfold vp_in; decide) rfl d_V_init_31 ?_
  refine gk_iinc X 32 (k := 0) (1 : Int32) [(1, .int (1 : Int32)), (0, .ref h)] d_V_init_32 hl rfl (by decide) (by decide) rfl (fun ls hl => ?_)
  refine gg_goto X 35 14 d_V_init_35 rfl ?_
  refine gg_iload_n X 14 d_V_init_14 rfl (lv_at hl 0 rfl) ?_
  refine gg_iconst X 15 (2 : Int32) d_V_init_15 (by decide) ?_
  refine gk_ge_f X 16 38 (by decide) d_V_init_16 rfl ?_
  refine gg_aload_n X 19 d_V_init_19 rfl (lv_at hl 1 rfl) ?_
  refine gg_get X 20 (q0 := 0) (k := 0) uw_V rfl rfl (by decide) rfl (Or.inl (List.mem_cons_of_mem _ w_61)) d_V_init_20 ?_
  refine gg_iload_n X 23 d_V_init_23 rfl (lv_at hl 0 rfl) ?_
  refine gz_new X 24 (ci := 2) [.null, .int 0, .int 0] uw_T ty_T tyok_T (List.mem_cons_of_mem _ w_21) (List.mem_cons_of_mem _ w_23) (List.mem_cons_of_mem _ w_3) rfl (fun j hj => by rcases (show j = 0 ∨ j = 1 ∨ j = 2 by omega) with rfl | rfl | rfl <;> rfl) (by decide) (by decide) d_V_init_24 (fun n5 => ?_)
  refine gz_cnt 5 18 rfl rfl ?_
  refine gg_dup X 27 d_V_init_27 rfl ?_
  refine gz_ctorN X 28 (w1 := [(h, .inr (1, [.ref q6, .int 0, .int 0, .int 0])), (q6, .inl (dI 3, 2, .inr (.inr (.inr (.inr (va_up (fun _ => none) (Int32.toNatClampNeg (0 : Int32)) (some n3))))))), (n3, .inr (2, [.ref c4, .int 0, .int 0])), (c4, .inr (3, [.ref r4, .int 0])), (r4, .inl (dI 0, 8, .inl (fun _ => 0)))]) [] [.ref n5, .int (1 : Int32), .ref q6] hao (fun sz => M_T_init l D dI n5 sz) ⟨va_cnB 0 X.1.2.2.2.2 (gwB w_26) rfl rfl rfl (X.2.2.2.2.2 _ nw_1) (X.1.2.2.2.2 _ (List.mem_cons_of_mem _ w_3)) (by decide +kernel) ⟨by decide, by decide⟩, rfl, X.1.2.2.2.2 _ (List.mem_cons_of_mem _ w_25)⟩ rfl hl.1 rfl (Nat.le_of_ble_eq_true rfl) (by decide) d_V_init_28 (fun w' hw' => ?_)
  obtain ⟨c6, r6, rfl⟩ := hw'
  refine gz_eq [(h, .inr (1, [.ref q6, .int 0, .int 0, .int 0])), (q6, .inl (dI 3, 2, .inr (.inr (.inr (.inr (va_up (fun _ => none) (Int32.toNatClampNeg (0 : Int32)) (some n3))))))), (n3, .inr (2, [.ref c4, .int 0, .int 0])), (c4, .inr (3, [.ref r4, .int 0])), (r4, .inl (dI 0, 8, .inl (fun _ => 0))), (n5, .inr (2, [.ref c6, .int 0, .int 0])), (c6, .inr (3, [.ref r6, .int 0])), (r6, .inl (dI 0, 8, .inl (fun _ => 0)))] rfl ?_
  refine gz_cnt 7 28 rfl rfl ?_
  refine gz_aast X 31 1 3 5 2 [(h, .inr (1, [.ref q6, .int 0, .int 0, .int 0])), (q6, .inl (dI 3, 2, .inr (.inr (.inr (.inr (va_up (va_up (fun _ => none) (Int32.toNatClampNeg (0 : Int32)) (some n3)) (Int32.toNatClampNeg (1 : Int32)) (some n5))))))), (n3, .inr (2, [.ref c4, .int 0, .int 0])), (c4, .inr (3, [.ref r4, .int 0])), (r4, .inl (dI 0, 8, .inl (fun _ => 0))), (n5, .inr (2, [.ref c6, .int 0, .int 0])), (c6, .inr (3, [.ref r6, .int 0])), (r6, .inl (dI 0, 8, .inl (fun _ => 0)))] rfl rfl rfl rfl (by unfold vp_in; decide) rfl d_V_init_31 ?_
  refine gk_iinc X 32 (k := 0) (2 : Int32) [(1, .int (2 : Int32)), (0, .ref h)] d_V_init_32 hl rfl (by decide) (by decide) rfl (fun ls hl => ?_)
  refine gg_goto X 35 14 d_V_init_35 rfl ?_
  refine gg_iload_n X 14 d_V_init_14 rfl (lv_at hl 0 rfl) ?_
  refine gg_iconst X 15 (2 : Int32) d_V_init_15 (by decide) ?_
  refine gk_ge_t X 16 38 (by decide) d_V_init_16 rfl ?_
  refine gg_aload_n X 38 d_V_init_38 rfl (lv_at hl 1 rfl) ?_
  refine gg_iconst X 39 (0 : Int32) d_V_init_39 (by decide) ?_
  refine gg_callV (o := some ((), [(h, .inr (1, [.ref q6, .int 0, .int 0, .int 0])), (q6, .inl (dI 3, 2, .inr (.inr (.inr (.inr (va_up (va_up (fun _ => none) (Int32.toNatClampNeg (0 : Int32)) (some n3)) (Int32.toNatClampNeg (1 : Int32)) (some n5))))))), (n3, .inr (2, [.ref c4, .int 0, .int 0])), (c4, .inr (3, [.ref r4, .int 0])), (r4, .inl (dI 0, 8, .inl (fun _ => 0))), (n5, .inr (2, [.ref c6, .int 0, .int 0])), (c6, .inr (3, [.ref r6, .int 0])), (r6, .inl (dI 0, 8, .inl (fun _ => 0)))])) (K := fun _ _ => some ((), [])) X 40 nwOk_E [.int (0 : Int32)] [] (fun _ _ ho sz => by cases ho; exact M_V_become8 l D dI h q6 n3 c4 r4 n5 c6 r6 sz) (cwV 1 X.1.2.2.2.2 (gwV w_57 w_59 ws_V_become w_2 w_60) rfl rfl rfl (by decide +kernel) ⟨by decide, by decide⟩) (q0 := 0) (ci := 1) rfl rfl rfl hl.1 rfl (Nat.le_of_ble_eq_true rfl) (by decide) d_V_init_40 (fun _ _ ho => ?_)
  cases ho
  refine gg_show_v ?_
  exact gz_vret X 43 ⟨q6, n3, c4, r4, n5, c6, r6, rfl⟩ d_V_init_43
