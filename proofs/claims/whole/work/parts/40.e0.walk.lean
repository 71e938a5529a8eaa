set_option maxHeartbeats 4000000 in
set_option maxRecDepth 100000 in
theorem t_W_isAddress_15 {p : Program} {l : Launch} {e : Env} {s0 : State} {m : MethodId} {args : Array Value} {below : List Frame} {meth : Method} {c : Code} {D : va_G} {A : Nat → Prop} {dI : Nat → ClassId} {ad : Nat → Nat} (X : CX p s0 m args meth c D vwCl (tyE dI) nwE A prog_1_method_22_code 1 (some .boolean) (Cond.code y_W_isAddress prog_1_method_22_code 1 (some .boolean) :: WS) R_W)  (s : eS) (ls : Array Slot)  (hl : lv_has ls 1 []) : GG p l e rm_W_isAddress s0 m args below meth c D vwCl (tyE dI) A (wE dI ad) 0 0 (QM below args s0 D vwCl (tyE dI) A (wE dI ad) rvI) (f_W_isAddress_15 s) (F0 m 15 ls []) s := by
  unfold f_W_isAddress_15
  refine gg_iconst X 15 (0 : Int32) d_W_isAddress_15 (by decide) ?_
  exact gg_zretk X 16 rfl d_W_isAddress_16
set_option maxHeartbeats 4000000 in
set_option maxRecDepth 100000 in
theorem t_W_isAddress {p : Program} {l : Launch} {e : Env} {s0 : State} {m : MethodId} {args : Array Value} {below : List Frame} {meth : Method} {c : Code} {D : va_G} {A : Nat → Prop} {dI : Nat → ClassId} {ad : Nat → Nat} (X : CX p s0 m args meth c D vwCl (tyE dI) nwE A prog_1_method_22_code 1 (some .boolean) (Cond.code y_W_isAddress prog_1_method_22_code 1 (some .boolean) :: WS) R_W) (a0 : Int32) (s : eS) (ls : Array Slot)  (hl : lv_has ls 1 [(0, .int a0)]) : GG p l e rm_W_isAddress s0 m args below meth c D vwCl (tyE dI) A (wE dI ad) 0 0 (QM below args s0 D vwCl (tyE dI) A (wE dI ad) rvI) (f_W_isAddress a0 s) (F0 m 0 ls []) s := by
  unfold f_W_isAddress
  refine gg_iload_n X 0 d_W_isAddress_0 rfl (lv_at hl 0 rfl) ?_
  refine gg_if_lt X 1 15 d_W_isAddress_1 rfl (fun _ => ?_) (fun _ => ?_)
  · exact t_W_isAddress_15 X s _  (lv_sub hl [] rfl)
  · refine gg_iload_n X 4 d_W_isAddress_4 rfl (lv_at hl 0 rfl) ?_
    refine gg_sipush X 5 (256 : Int32) d_W_isAddress_5 (by decide) ?_
    refine gg_icmp_ge X 8 15 d_W_isAddress_8 rfl (fun _ => ?_) (fun _ => ?_)
    · exact t_W_isAddress_15 X s _  (lv_sub hl [] rfl)
    · refine gg_iconst X 11 (1 : Int32) d_W_isAddress_11 (by decide) ?_
      refine gg_goto X 12 16 d_W_isAddress_12 rfl ?_
      exact gg_zretk X 16 rfl d_W_isAddress_16
theorem M_W_isAddress (l : Launch) (D : va_G) (dI : Nat → ClassId) (ad : Nat → Nat) (s : eS) (a0 : Int32)  {r : Int32} {s' : eS} (h : f_W_isAddress a0 s = some (r, s')) (sz : Nat) : Met l y_W_isAddress (Cond.code y_W_isAddress prog_1_method_22_code 1 (some .boolean) :: WS) rm_W_isAddress (Px (wE dI ad) D vwCl (tyE dI) nwE sz s [.int a0]) (Qx rvI (wE dI ad) D vwCl (tyE dI) (va_A ((wE dI ad) s) sz) r s') 0 0 (va_A ((wE dI ad) s) sz) :=
  met_of [.int a0] (by decide) rfl rfl (Nat.le_of_ble_eq_true rfl) h (fun p e s0 m args below meth c A ls X hl => t_W_isAddress X a0 s ls  hl)
set_option maxHeartbeats 4000000 in
set_option maxRecDepth 100000 in
theorem t_W_systemMayUse_29 {p : Program} {l : Launch} {e : Env} {s0 : State} {m : MethodId} {args : Array Value} {below : List Frame} {meth : Method} {c : Code} {D : va_G} {A : Nat → Prop} {dI : Nat → ClassId} {ad : Nat → Nat} (X : CX p s0 m args meth c D vwCl (tyE dI) nwE A prog_1_method_28_code 3 (some .boolean) (Cond.code y_W_systemMayUse prog_1_method_28_code 3 (some .boolean) :: WS) R_W)  (s : eS) (ls : Array Slot)  (hl : lv_has ls 3 []) : GG p l e rm_W_systemMayUse s0 m args below meth c D vwCl (tyE dI) A (wE dI ad) 0 0 (QM below args s0 D vwCl (tyE dI) A (wE dI ad) rvI) (f_W_systemMayUse_29 s) (F0 m 29 ls []) s := by
  unfold f_W_systemMayUse_29
  refine gg_iconst X 29 (1 : Int32) d_W_systemMayUse_29 (by decide) ?_
  refine gg_goto X 30 34 d_W_systemMayUse_30 rfl ?_
  exact gg_zretk X 34 rfl d_W_systemMayUse_34
set_option maxHeartbeats 4000000 in
set_option maxRecDepth 100000 in
theorem t_W_systemMayUse {p : Program} {l : Launch} {e : Env} {s0 : State} {m : MethodId} {args : Array Value} {below : List Frame} {meth : Method} {c : Code} {D : va_G} {A : Nat → Prop} {dI : Nat → ClassId} {ad : Nat → Nat} (X : CX p s0 m args meth c D vwCl (tyE dI) nwE A prog_1_method_28_code 3 (some .boolean) (Cond.code y_W_systemMayUse prog_1_method_28_code 3 (some .boolean) :: WS) R_W) (a1 : Int32) (s : eS) (ls : Array Slot)  (hl : lv_has ls 3 [(0, .ref (ad 0)), (1, .int a1)]) : GG p l e rm_W_systemMayUse s0 m args below meth c D vwCl (tyE dI) A (wE dI ad) 0 0 (QM below args s0 D vwCl (tyE dI) A (wE dI ad) rvI) (f_W_systemMayUse a1 s) (F0 m 0 ls []) s := by
  unfold f_W_systemMayUse
  refine gg_iload_n X 0 d_W_systemMayUse_0 rfl (lv_at hl 1 rfl) ?_
  refine gg_callS X 1 nwOk_E [.int a1] [] (fun _ _ h sz => M_W_isAddress l D dI ad _ a1  h sz) (cwS 1 X.1.2.2.2.2 (gwS w_119 w_120 w_1 w_121) rfl rfl rfl (by decide +kernel) ⟨by decide, by decide⟩) rfl hl.1 rfl (Nat.le_of_ble_eq_true rfl) ⟨Nat.zero_le _, Nat.zero_le _⟩ d_W_systemMayUse_1 (fun r1 s2 ho3 => ?_)
  refine gg_show_i ?_
  refine gg_if_ne X 4 9 d_W_systemMayUse_4 rfl (fun _ => ?_) (fun _ => ?_)
  · refine gg_aload_n X 9 d_W_systemMayUse_9 rfl (lv_at hl 0 rfl) ?_
    refine gg_get_W_kinds X 10 (Or.inl (List.mem_cons_of_mem _ w_82)) d_W_systemMayUse_10 ?_
    refine gg_iload_n X 13 d_W_systemMayUse_13 rfl (lv_at hl 1 rfl) ?_
    refine gg_bipush X 14 (16 : Int32) d_W_systemMayUse_14 (by decide) ?_
    refine gg_idivk X 16 d_W_systemMayUse_16 (by decide) ?_
    refine gg_ald_KIN X 17 d_W_systemMayUse_17 ?_
    refine gg_istore_n X 18 (fun v4 => [(2, .int v4), (0, .ref (ad 0)), (1, .int a1)]) d_W_systemMayUse_18 rfl hl (by decide) (fun _ => rfl) (fun v4 ls hl => ?_)
    refine gg_iload_n X 19 d_W_systemMayUse_19 rfl (lv_at hl 0 rfl) ?_
    refine gg_iconst X 20 (1 : Int32) d_W_systemMayUse_20 (by decide) ?_
    refine gg_icmp_eq X 21 29 d_W_systemMayUse_21 rfl (fun _ => ?_) (fun _ => ?_)
    · exact t_W_systemMayUse_29 X s2 _  (lv_sub hl [] rfl)
    · refine gg_iload_n X 24 d_W_systemMayUse_24 rfl (lv_at hl 0 rfl) ?_
      refine gg_iconst X 25 (5 : Int32) d_W_systemMayUse_25 (by decide) ?_
      refine gg_icmp_lt X 26 33 d_W_systemMayUse_26 rfl (fun _ => ?_) (fun _ => ?_)
      · refine gg_iconst X 33 (0 : Int32) d_W_systemMayUse_33 (by decide) ?_
        exact gg_zretk X 34 rfl d_W_systemMayUse_34
      · exact t_W_systemMayUse_29 X s2 _  (lv_sub hl [] rfl)
  · refine gg_iconst X 7 (0 : Int32) d_W_systemMayUse_7 (by decide) ?_
    exact gg_zretk X 8 rfl d_W_systemMayUse_8
theorem M_W_systemMayUse (l : Launch) (D : va_G) (dI : Nat → ClassId) (ad : Nat → Nat) (s : eS) (a1 : Int32)  {r : Int32} {s' : eS} (h : f_W_systemMayUse a1 s = some (r, s')) (sz : Nat) : Met l y_W_systemMayUse (Cond.code y_W_systemMayUse prog_1_method_28_code 3 (some .boolean) :: WS) rm_W_systemMayUse (Px (wE dI ad) D vwCl (tyE dI) nwE sz s [.ref (ad 0), .int a1]) (Qx rvI (wE dI ad) D vwCl (tyE dI) (va_A ((wE dI ad) s) sz) r s') 0 0 (va_A ((wE dI ad) s) sz) :=
  met_of [.ref (ad 0), .int a1] (by decide) rfl rfl (Nat.le_of_ble_eq_true rfl) h (fun p e s0 m args below meth c A ls X hl => t_W_systemMayUse X a1 s ls  hl)
set_option maxHeartbeats 4000000 in
set_option maxRecDepth 100000 in
theorem t_W_poke {p : Program} {l : Launch} {e : Env} {s0 : State} {m : MethodId} {args : Array Value} {below : List Frame} {meth : Method} {c : Code} {D : va_G} {A : Nat → Prop} {dI : Nat → ClassId} {ad : Nat → Nat} (X : CX p s0 m args meth c D vwCl (tyE dI) nwE A prog_1_method_2_code 3 (some .boolean) (Cond.code y_W_poke prog_1_method_2_code 3 (some .boolean) :: WS) R_W) (a1 : Int32) (a2 : Int32) (s : eS) (ls : Array Slot)  (hl : lv_has ls 3 [(0, .ref (ad 0)), (1, .int a1), (2, .int a2)]) : GG p l e rm_W_poke s0 m args below meth c D vwCl (tyE dI) A (wE dI ad) 0 0 (QM below args s0 D vwCl (tyE dI) A (wE dI ad) rvI) (f_W_poke a1 a2 s) (F0 m 0 ls []) s := by
  unfold f_W_poke
  refine gg_aload_n X 0 d_W_poke_0 rfl (lv_at hl 0 rfl) ?_
  refine gg_iload_n X 1 d_W_poke_1 rfl (lv_at hl 1 rfl) ?_
  refine gg_callV X 2 nwOk_E [.int a1] [] (fun _ _ h sz => M_W_systemMayUse l D dI ad _ a1  h sz) (cwV 1 X.1.2.2.2.2 (gwV w_115 w_117 ws_W_systemMayUse w_1 w_118) rfl rfl rfl (by decide +kernel) ⟨by decide, by decide⟩) (he_E_Main) rfl rfl hl.1 rfl (Nat.le_of_ble_eq_true rfl) ⟨Nat.zero_le _, Nat.zero_le _⟩ d_W_poke_2 (fun r1 s2 ho3 => ?_)
  refine gg_show_i ?_
  refine gg_if_ne X 5 10 d_W_poke_5 rfl (fun _ => ?_) (fun _ => ?_)
  · refine gg_aload_n X 10 d_W_poke_10 rfl (lv_at hl 0 rfl) ?_
    refine gg_get_W_memory X 11 (Or.inl (List.mem_cons_of_mem _ w_81)) d_W_poke_11 ?_
    refine gg_iload_n X 14 d_W_poke_14 rfl (lv_at hl 1 rfl) ?_
    refine gg_iload_n X 15 d_W_poke_15 rfl (lv_at hl 2 rfl) ?_
    refine gg_ast_MEM X 16 d_W_poke_16 (fun s4 => ?_)
    refine gg_iconst X 17 (1 : Int32) d_W_poke_17 (by decide) ?_
    exact gg_zretk X 18 rfl d_W_poke_18
  · refine gg_iconst X 8 (0 : Int32) d_W_poke_8 (by decide) ?_
    exact gg_zretk X 9 rfl d_W_poke_9
theorem M_W_poke (l : Launch) (D : va_G) (dI : Nat → ClassId) (ad : Nat → Nat) (s : eS) (a1 : Int32) (a2 : Int32)  {r : Int32} {s' : eS} (h : f_W_poke a1 a2 s = some (r, s')) (sz : Nat) : Met l y_W_poke (Cond.code y_W_poke prog_1_method_2_code 3 (some .boolean) :: WS) rm_W_poke (Px (wE dI ad) D vwCl (tyE dI) nwE sz s [.ref (ad 0), .int a1, .int a2]) (Qx rvI (wE dI ad) D vwCl (tyE dI) (va_A ((wE dI ad) s) sz) r s') 0 0 (va_A ((wE dI ad) s) sz) :=
  met_of [.ref (ad 0), .int a1, .int a2] (by decide) rfl rfl (Nat.le_of_ble_eq_true rfl) h (fun p e s0 m args below meth c A ls X hl => t_W_poke X a1 a2 s ls  hl)
set_option maxHeartbeats 4000000 in
set_option maxRecDepth 100000 in
theorem t_W_peek {p : Program} {l : Launch} {e : Env} {s0 : State} {m : MethodId} {args : Array Value} {below : List Frame} {meth : Method} {c : Code} {D : va_G} {A : Nat → Prop} {dI : Nat → ClassId} {ad : Nat → Nat} (X : CX p s0 m args meth c D vwCl (tyE dI) nwE A prog_1_method_3_code 2 (some .int) (Cond.code y_W_peek prog_1_method_3_code 2 (some .int) :: WS) R_W) (a1 : Int32) (s : eS) (ls : Array Slot)  (hl : lv_has ls 2 [(0, .ref (ad 0)), (1, .int a1)]) : GG p l e rm_W_peek s0 m args below meth c D vwCl (tyE dI) A (wE dI ad) 0 0 (QM below args s0 D vwCl (tyE dI) A (wE dI ad) rvI) (f_W_peek a1 s) (F0 m 0 ls []) s := by
  unfold f_W_peek
  refine gg_aload_n X 0 d_W_peek_0 rfl (lv_at hl 0 rfl) ?_
  refine gg_iload_n X 1 d_W_peek_1 rfl (lv_at hl 1 rfl) ?_
  refine gg_callV X 2 nwOk_E [.int a1] [] (fun _ _ h sz => M_W_systemMayUse l D dI ad _ a1  h sz) (cwV 1 X.1.2.2.2.2 (gwV w_115 w_117 ws_W_systemMayUse w_1 w_118) rfl rfl rfl (by decide +kernel) ⟨by decide, by decide⟩) (he_E_Main) rfl rfl hl.1 rfl (Nat.le_of_ble_eq_true rfl) ⟨Nat.zero_le _, Nat.zero_le _⟩ d_W_peek_2 (fun r1 s2 ho3 => ?_)
  refine gg_show_i ?_
  refine gg_if_eq X 5 17 d_W_peek_5 rfl (fun _ => ?_) (fun _ => ?_)
  · refine gg_iconst X 17 (0 : Int32) d_W_peek_17 (by decide) ?_
    exact gg_iret X 18 d_W_peek_18
  · refine gg_aload_n X 8 d_W_peek_8 rfl (lv_at hl 0 rfl) ?_
    refine gg_get_W_memory X 9 (Or.inl (List.mem_cons_of_mem _ w_81)) d_W_peek_9 ?_
    refine gg_iload_n X 12 d_W_peek_12 rfl (lv_at hl 1 rfl) ?_
    refine gg_ald_MEM X 13 d_W_peek_13 ?_
    refine gg_goto X 14 18 d_W_peek_14 rfl ?_
    exact gg_iret X 18 d_W_peek_18
theorem M_W_peek (l : Launch) (D : va_G) (dI : Nat → ClassId) (ad : Nat → Nat) (s : eS) (a1 : Int32)  {r : Int32} {s' : eS} (h : f_W_peek a1 s = some (r, s')) (sz : Nat) : Met l y_W_peek (Cond.code y_W_peek prog_1_method_3_code 2 (some .int) :: WS) rm_W_peek (Px (wE dI ad) D vwCl (tyE dI) nwE sz s [.ref (ad 0), .int a1]) (Qx rvI (wE dI ad) D vwCl (tyE dI) (va_A ((wE dI ad) s) sz) r s') 0 0 (va_A ((wE dI ad) s) sz) :=
  met_of [.ref (ad 0), .int a1] (by decide) rfl rfl (Nat.le_of_ble_eq_true rfl) h (fun p e s0 m args below meth c A ls X hl => t_W_peek X a1 s ls  hl)
set_option maxHeartbeats 4000000 in
set_option maxRecDepth 100000 in
theorem t_W_bare {p : Program} {l : Launch} {e : Env} {s0 : State} {m : MethodId} {args : Array Value} {below : List Frame} {meth : Method} {c : Code} {D : va_G} {A : Nat → Prop} {dI : Nat → ClassId} {ad : Nat → Nat} (X : CX p s0 m args meth c D vwCl (tyE dI) nwE A prog_1_method_4_code 2 (some .int) (Cond.code y_W_bare prog_1_method_4_code 2 (some .int) :: WS) R_W) (a1 : Int32) (s : eS) (ls : Array Slot)  (hl : lv_has ls 2 [(0, .ref (ad 0)), (1, .int a1)]) : GG p l e rm_W_bare s0 m args below meth c D vwCl (tyE dI) A (wE dI ad) 0 0 (QM below args s0 D vwCl (tyE dI) A (wE dI ad) rvI) (f_W_bare a1 s) (F0 m 0 ls []) s := by
  unfold f_W_bare
  refine gg_iload_n X 0 d_W_bare_0 rfl (lv_at hl 1 rfl) ?_
  refine gg_callS X 1 nwOk_E [.int a1] [] (fun _ _ h sz => M_W_isAddress l D dI ad _ a1  h sz) (cwS 1 X.1.2.2.2.2 (gwS w_119 w_120 w_1 w_121) rfl rfl rfl (by decide +kernel) ⟨by decide, by decide⟩) rfl hl.1 rfl (Nat.le_of_ble_eq_true rfl) ⟨Nat.zero_le _, Nat.zero_le _⟩ d_W_bare_1 (fun r1 s2 ho3 => ?_)
  refine gg_show_i ?_
  refine gg_if_eq X 4 16 d_W_bare_4 rfl (fun _ => ?_) (fun _ => ?_)
  · refine gg_iconst X 16 (0 : Int32) d_W_bare_16 (by decide) ?_
    exact gg_iret X 17 d_W_bare_17
  · refine gg_aload_n X 7 d_W_bare_7 rfl (lv_at hl 0 rfl) ?_
    refine gg_get_W_memory X 8 (Or.inl (List.mem_cons_of_mem _ w_81)) d_W_bare_8 ?_
    refine gg_iload_n X 11 d_W_bare_11 rfl (lv_at hl 1 rfl) ?_
    refine gg_ald_MEM X 12 d_W_bare_12 ?_
    refine gg_goto X 13 17 d_W_bare_13 rfl ?_
    exact gg_iret X 17 d_W_bare_17
theorem M_W_bare (l : Launch) (D : va_G) (dI : Nat → ClassId) (ad : Nat → Nat) (s : eS) (a1 : Int32)  {r : Int32} {s' : eS} (h : f_W_bare a1 s = some (r, s')) (sz : Nat) : Met l y_W_bare (Cond.code y_W_bare prog_1_method_4_code 2 (some .int) :: WS) rm_W_bare (Px (wE dI ad) D vwCl (tyE dI) nwE sz s [.ref (ad 0), .int a1]) (Qx rvI (wE dI ad) D vwCl (tyE dI) (va_A ((wE dI ad) s) sz) r s') 0 0 (va_A ((wE dI ad) s) sz) :=
  met_of [.ref (ad 0), .int a1] (by decide) rfl rfl (Nat.le_of_ble_eq_true rfl) h (fun p e s0 m args below meth c A ls X hl => t_W_bare X a1 s ls  hl)
set_option maxHeartbeats 4000000 in
set_option maxRecDepth 100000 in
theorem t_C_put {p : Program} {l : Launch} {e : Env} {s0 : State} {m : MethodId} {args : Array Value} {below : List Frame} {meth : Method} {c : Code} {D : va_G} {A : Nat → Prop} {dI : Nat → ClassId} {ad : Nat → Nat} (X : CX p s0 m args meth c D vwCl (tyE dI) nwE A prog_2_method_3_code 3 none (Cond.code y_C_put prog_2_method_3_code 3 none :: WS) R_C) (n0 : Nat) (a1 : Int32) (a2 : Int32) (s : eS) (ls : Array Slot) (hb0 : n0 < 7) (hl : lv_has ls 3 [(0, .ref (ad (17 + n0))), (1, .int a1), (2, .int a2)]) : GG p l e rm_C_put s0 m args below meth c D vwCl (tyE dI) A (wE dI ad) 0 0 (QM below args s0 D vwCl (tyE dI) A (wE dI ad) rvV) (f_C_put n0 a1 a2 s) (F0 m 0 ls []) s := by
  unfold f_C_put
  refine gg_iload_n X 0 d_C_put_0 rfl (lv_at hl 1 rfl) ?_
  refine gg_if_le X 1 17 d_C_put_1 rfl (fun _ => ?_) (fun _ => ?_)
  · exact gg_vret X 17 d_C_put_17
  · refine gg_iload_n X 4 d_C_put_4 rfl (lv_at hl 1 rfl) ?_
    refine gg_bipush X 5 (8 : Int32) d_C_put_5 (by decide) ?_
    refine gg_icmp_ge X 7 17 d_C_put_7 rfl (fun _ => ?_) (fun _ => ?_)
    · exact gg_vret X 17 d_C_put_17
    · refine gg_aload_n X 10 d_C_put_10 rfl (lv_at hl 0 rfl) ?_
      refine gg_get_C_registers X 11 hb0 (Or.inl (List.mem_cons_of_mem _ w_34)) d_C_put_11 ?_
      refine gg_iload_n X 14 d_C_put_14 rfl (lv_at hl 1 rfl) ?_
      refine gg_iload_n X 15 d_C_put_15 rfl (lv_at hl 2 rfl) ?_
      refine gg_ast_RG X 16 hb0 d_C_put_16 (fun s1 => ?_)
      exact gg_vret X 17 d_C_put_17
theorem M_C_put (l : Launch) (D : va_G) (dI : Nat → ClassId) (ad : Nat → Nat) (s : eS) (n0 : Nat) (a1 : Int32) (a2 : Int32) (hb0 : n0 < 7) {r : Unit} {s' : eS} (h : f_C_put n0 a1 a2 s = some (r, s')) (sz : Nat) : Met l y_C_put (Cond.code y_C_put prog_2_method_3_code 3 none :: WS) rm_C_put (Px (wE dI ad) D vwCl (tyE dI) nwE sz s [.ref (ad (17 + n0)), .int a1, .int a2]) (Qx rvV (wE dI ad) D vwCl (tyE dI) (va_A ((wE dI ad) s) sz) r s') 0 0 (va_A ((wE dI ad) s) sz) :=
  met_of [.ref (ad (17 + n0)), .int a1, .int a2] (by decide) rfl rfl (Nat.le_of_ble_eq_true rfl) h (fun p e s0 m args below meth c A ls X hl => t_C_put X n0 a1 a2 s ls hb0 hl)
set_option maxHeartbeats 4000000 in
set_option maxRecDepth 100000 in
theorem t_W_give_19 {p : Program} {l : Launch} {e : Env} {s0 : State} {m : MethodId} {args : Array Value} {below : List Frame} {meth : Method} {c : Code} {D : va_G} {A : Nat → Prop} {dI : Nat → ClassId} {ad : Nat → Nat} (X : CX p s0 m args meth c D vwCl (tyE dI) nwE A prog_1_method_5_code 3 (some .boolean) (Cond.code y_W_give prog_1_method_5_code 3 (some .boolean) :: WS) R_W)  (s : eS) (ls : Array Slot)  (hl : lv_has ls 3 []) : GG p l e rm_W_give s0 m args below meth c D vwCl (tyE dI) A (wE dI ad) 0 0 (QM below args s0 D vwCl (tyE dI) A (wE dI ad) rvI) (f_W_give_19 s) (F0 m 19 ls []) s := by
  unfold f_W_give_19
  refine gg_iconst X 19 (0 : Int32) d_W_give_19 (by decide) ?_
  exact gg_zretk X 20 rfl d_W_give_20
set_option maxHeartbeats 4000000 in
set_option maxRecDepth 100000 in
theorem t_W_give {p : Program} {l : Launch} {e : Env} {s0 : State} {m : MethodId} {args : Array Value} {below : List Frame} {meth : Method} {c : Code} {D : va_G} {A : Nat → Prop} {dI : Nat → ClassId} {ad : Nat → Nat} (X : CX p s0 m args meth c D vwCl (tyE dI) nwE A prog_1_method_5_code 3 (some .boolean) (Cond.code y_W_give prog_1_method_5_code 3 (some .boolean) :: WS) R_W) (a1 : Int32) (a2 : Int32) (s : eS) (ls : Array Slot)  (hl : lv_has ls 3 [(0, .ref (ad 0)), (1, .int a1), (2, .int a2)]) : GG p l e rm_W_give s0 m args below meth c D vwCl (tyE dI) A (wE dI ad) 0 0 (QM below args s0 D vwCl (tyE dI) A (wE dI ad) rvI) (f_W_give a1 a2 s) (F0 m 0 ls []) s := by
  unfold f_W_give
  refine gg_iload_n X 0 d_W_give_0 rfl (lv_at hl 1 rfl) ?_
  refine gg_iconst X 1 (1 : Int32) d_W_give_1 (by decide) ?_
  refine gg_icmp_lt X 2 19 d_W_give_2 rfl (fun _ => ?_) (fun _ => ?_)
  · exact t_W_give_19 X s _  (lv_sub hl [] rfl)
  · refine gg_iload_n X 5 d_W_give_5 rfl (lv_at hl 1 rfl) ?_
    refine gg_bipush X 6 (8 : Int32) d_W_give_6 (by decide) ?_
    refine gg_icmp_ge X 8 19 d_W_give_8 rfl (fun _ => ?_) (fun _ => ?_)
    · exact t_W_give_19 X s _  (lv_sub hl [] rfl)
    · refine gg_aload_n X 11 d_W_give_11 rfl (lv_at hl 0 rfl) ?_
      refine gg_get_W_running X 12 (Or.inl (List.mem_cons_of_mem _ w_87)) d_W_give_12 ?_
      refine gg_iconst X 15 (-1 : Int32) d_W_give_15 (by decide) ?_
      refine gg_icmp_eq X 16 21 d_W_give_16 rfl (fun _ => ?_) (fun _ => ?_)
      · refine gg_aload_n X 21 d_W_give_21 rfl (lv_at hl 0 rfl) ?_
        refine gg_get_W_system X 22 (Or.inl (List.mem_cons_of_mem _ w_84)) d_W_give_22 ?_
        refine gg_iload_n X 25 d_W_give_25 rfl (lv_at hl 1 rfl) ?_
        refine gg_iload_n X 26 d_W_give_26 rfl (lv_at hl 2 rfl) ?_
        refine gg_callVN X 27 nwOk_E [.int a1, .int a2] [] (fun _ _ h sz => M_C_put l D dI ad _ 6 a1 a2 (by decide) h sz) (⟨va_cnB 2 X.1.2.2.2.2 (gwB w_137) rfl rfl rfl (X.2.2.2.2.2 _ nw_13) (X.1.2.2.2.2 _ (List.mem_cons_of_mem _ w_4)) (by decide +kernel) ⟨by decide, by decide⟩, X.1.2.2.2.2 _ (List.mem_cons_of_mem _ w_136), X.1.2.2.2.2 _ (List.mem_cons_of_mem _ ws_C_put)⟩) (he_E_Core (by decide)) rfl rfl hl.1 rfl (Nat.le_of_ble_eq_true rfl) ⟨Nat.zero_le _, Nat.zero_le _⟩ d_W_give_27 (fun r1 s2 ho3 => ?_)
        refine gg_show_v ?_
        refine gg_iconst X 30 (1 : Int32) d_W_give_30 (by decide) ?_
        exact gg_zretk X 31 rfl d_W_give_31
      · exact t_W_give_19 X s _  (lv_sub hl [] rfl)
theorem M_W_give (l : Launch) (D : va_G) (dI : Nat → ClassId) (ad : Nat → Nat) (s : eS) (a1 : Int32) (a2 : Int32)  {r : Int32} {s' : eS} (h : f_W_give a1 a2 s = some (r, s')) (sz : Nat) : Met l y_W_give (Cond.code y_W_give prog_1_method_5_code 3 (some .boolean) :: WS) rm_W_give (Px (wE dI ad) D vwCl (tyE dI) nwE sz s [.ref (ad 0), .int a1, .int a2]) (Qx rvI (wE dI ad) D vwCl (tyE dI) (va_A ((wE dI ad) s) sz) r s') 0 0 (va_A ((wE dI ad) s) sz) :=
  met_of [.ref (ad 0), .int a1, .int a2] (by decide) rfl rfl (Nat.le_of_ble_eq_true rfl) h (fun p e s0 m args below meth c A ls X hl => t_W_give X a1 a2 s ls  hl)
set_option maxHeartbeats 4000000 in
set_option maxRecDepth 100000 in
theorem t_C_get_19 {p : Program} {l : Launch} {e : Env} {s0 : State} {m : MethodId} {args : Array Value} {below : List Frame} {meth : Method} {c : Code} {D : va_G} {A : Nat → Prop} {dI : Nat → ClassId} {ad : Nat → Nat} (X : CX p s0 m args meth c D vwCl (tyE dI) nwE A prog_2_method_2_code 2 (some .int) (Cond.code y_C_get prog_2_method_2_code 2 (some .int) :: WS) R_C)  (s : eS) (ls : Array Slot)  (hl : lv_has ls 2 []) : GG p l e rm_C_get s0 m args below meth c D vwCl (tyE dI) A (wE dI ad) 0 0 (QM below args s0 D vwCl (tyE dI) A (wE dI ad) rvI) (f_C_get_19 s) (F0 m 19 ls []) s := by
  unfold f_C_get_19
  refine gg_iconst X 19 (0 : Int32) d_C_get_19 (by decide) ?_
  exact gg_iret X 20 d_C_get_20
set_option maxHeartbeats 4000000 in
set_option maxRecDepth 100000 in
theorem t_C_get {p : Program} {l : Launch} {e : Env} {s0 : State} {m : MethodId} {args : Array Value} {below : List Frame} {meth : Method} {c : Code} {D : va_G} {A : Nat → Prop} {dI : Nat → ClassId} {ad : Nat → Nat} (X : CX p s0 m args meth c D vwCl (tyE dI) nwE A prog_2_method_2_code 2 (some .int) (Cond.code y_C_get prog_2_method_2_code 2 (some .int) :: WS) R_C) (n0 : Nat) (a1 : Int32) (s : eS) (ls : Array Slot) (hb0 : n0 < 7) (hl : lv_has ls 2 [(0, .ref (ad (17 + n0))), (1, .int a1)]) : GG p l e rm_C_get s0 m args below meth c D vwCl (tyE dI) A (wE dI ad) 0 0 (QM below args s0 D vwCl (tyE dI) A (wE dI ad) rvI) (f_C_get n0 a1 s) (F0 m 0 ls []) s := by
  unfold f_C_get
  refine gg_iload_n X 0 d_C_get_0 rfl (lv_at hl 1 rfl) ?_
  refine gg_if_lt X 1 19 d_C_get_1 rfl (fun _ => ?_) (fun _ => ?_)
  · exact t_C_get_19 X s _  (lv_sub hl [] rfl)
  · refine gg_iload_n X 4 d_C_get_4 rfl (lv_at hl 1 rfl) ?_
    refine gg_bipush X 5 (8 : Int32) d_C_get_5 (by decide) ?_
    refine gg_icmp_ge X 7 19 d_C_get_7 rfl (fun _ => ?_) (fun _ => ?_)
    · exact t_C_get_19 X s _  (lv_sub hl [] rfl)
    · refine gg_aload_n X 10 d_C_get_10 rfl (lv_at hl 0 rfl) ?_
      refine gg_get_C_registers X 11 hb0 (Or.inl (List.mem_cons_of_mem _ w_34)) d_C_get_11 ?_
      refine gg_iload_n X 14 d_C_get_14 rfl (lv_at hl 1 rfl) ?_
      refine gg_ald_RG X 15 hb0 d_C_get_15 ?_
      refine gg_goto X 16 20 d_C_get_16 rfl ?_
      exact gg_iret X 20 d_C_get_20
theorem M_C_get (l : Launch) (D : va_G) (dI : Nat → ClassId) (ad : Nat → Nat) (s : eS) (n0 : Nat) (a1 : Int32) (hb0 : n0 < 7) {r : Int32} {s' : eS} (h : f_C_get n0 a1 s = some (r, s')) (sz : Nat) : Met l y_C_get (Cond.code y_C_get prog_2_method_2_code 2 (some .int) :: WS) rm_C_get (Px (wE dI ad) D vwCl (tyE dI) nwE sz s [.ref (ad (17 + n0)), .int a1]) (Qx rvI (wE dI ad) D vwCl (tyE dI) (va_A ((wE dI ad) s) sz) r s') 0 0 (va_A ((wE dI ad) s) sz) :=
  met_of [.ref (ad (17 + n0)), .int a1] (by decide) rfl rfl (Nat.le_of_ble_eq_true rfl) h (fun p e s0 m args below meth c A ls X hl => t_C_get X n0 a1 s ls hb0 hl)
set_option maxHeartbeats 4000000 in
set_option maxRecDepth 100000 in
theorem t_W_register {p : Program} {l : Launch} {e : Env} {s0 : State} {m : MethodId} {args : Array Value} {below : List Frame} {meth : Method} {c : Code} {D : va_G} {A : Nat → Prop} {dI : Nat → ClassId} {ad : Nat → Nat} (X : CX p s0 m args meth c D vwCl (tyE dI) nwE A prog_1_method_6_code 2 (some .int) (Cond.code y_W_register prog_1_method_6_code 2 (some .int) :: WS) R_W) (a1 : Int32) (s : eS) (ls : Array Slot)  (hl : lv_has ls 2 [(0, .ref (ad 0)), (1, .int a1)]) : GG p l e rm_W_register s0 m args below meth c D vwCl (tyE dI) A (wE dI ad) 0 0 (QM below args s0 D vwCl (tyE dI) A (wE dI ad) rvI) (f_W_register a1 s) (F0 m 0 ls []) s := by
  unfold f_W_register
  refine gg_aload_n X 0 d_W_register_0 rfl (lv_at hl 0 rfl) ?_
  refine gg_get_W_system X 1 (Or.inl (List.mem_cons_of_mem _ w_84)) d_W_register_1 ?_
  refine gg_iload_n X 4 d_W_register_4 rfl (lv_at hl 1 rfl) ?_
  refine gg_callVN X 5 nwOk_E [.int a1] [] (fun _ _ h sz => M_C_get l D dI ad _ 6 a1 (by decide) h sz) (⟨va_cnB 1 X.1.2.2.2.2 (gwB w_145) rfl rfl rfl (X.2.2.2.2.2 _ nw_14) (X.1.2.2.2.2 _ (List.mem_cons_of_mem _ w_4)) (by decide +kernel) ⟨by decide, by decide⟩, X.1.2.2.2.2 _ (List.mem_cons_of_mem _ w_144), X.1.2.2.2.2 _ (List.mem_cons_of_mem _ ws_C_get)⟩) (he_E_Core (by decide)) rfl rfl hl.1 rfl (Nat.le_of_ble_eq_true rfl) ⟨Nat.zero_le _, Nat.zero_le _⟩ d_W_register_5 (fun r1 s2 ho3 => ?_)
  refine gg_show_i ?_
  exact gg_iret X 8 d_W_register_8
theorem M_W_register (l : Launch) (D : va_G) (dI : Nat → ClassId) (ad : Nat → Nat) (s : eS) (a1 : Int32)  {r : Int32} {s' : eS} (h : f_W_register a1 s = some (r, s')) (sz : Nat) : Met l y_W_register (Cond.code y_W_register prog_1_method_6_code 2 (some .int) :: WS) rm_W_register (Px (wE dI ad) D vwCl (tyE dI) nwE sz s [.ref (ad 0), .int a1]) (Qx rvI (wE dI ad) D vwCl (tyE dI) (va_A ((wE dI ad) s) sz) r s') 0 0 (va_A ((wE dI ad) s) sz) :=
  met_of [.ref (ad 0), .int a1] (by decide) rfl rfl (Nat.le_of_ble_eq_true rfl) h (fun p e s0 m args below meth c A ls X hl => t_W_register X a1 s ls  hl)
set_option maxHeartbeats 4000000 in
set_option maxRecDepth 100000 in
theorem t_W_pc {p : Program} {l : Launch} {e : Env} {s0 : State} {m : MethodId} {args : Array Value} {below : List Frame} {meth : Method} {c : Code} {D : va_G} {A : Nat → Prop} {dI : Nat → ClassId} {ad : Nat → Nat} (X : CX p s0 m args meth c D vwCl (tyE dI) nwE A prog_1_method_7_code 1 (some .int) (Cond.code y_W_pc prog_1_method_7_code 1 (some .int) :: WS) R_W)  (s : eS) (ls : Array Slot)  (hl : lv_has ls 1 [(0, .ref (ad 0))]) : GG p l e rm_W_pc s0 m args below meth c D vwCl (tyE dI) A (wE dI ad) 0 0 (QM below args s0 D vwCl (tyE dI) A (wE dI ad) rvI) (f_W_pc s) (F0 m 0 ls []) s := by
  unfold f_W_pc
  refine gg_aload_n X 0 d_W_pc_0 rfl (lv_at hl 0 rfl) ?_
  refine gg_get_W_system X 1 (Or.inl (List.mem_cons_of_mem _ w_84)) d_W_pc_1 ?_
  refine gg_get_C_pc X 4 (by decide) (Or.inr ⟨_, nw_3⟩) d_W_pc_4 ?_
  exact gg_iret X 7 d_W_pc_7
theorem M_W_pc (l : Launch) (D : va_G) (dI : Nat → ClassId) (ad : Nat → Nat) (s : eS)   {r : Int32} {s' : eS} (h : f_W_pc s = some (r, s')) (sz : Nat) : Met l y_W_pc (Cond.code y_W_pc prog_1_method_7_code 1 (some .int) :: WS) rm_W_pc (Px (wE dI ad) D vwCl (tyE dI) nwE sz s [.ref (ad 0)]) (Qx rvI (wE dI ad) D vwCl (tyE dI) (va_A ((wE dI ad) s) sz) r s') 0 0 (va_A ((wE dI ad) s) sz) :=
  met_of [.ref (ad 0)] (by decide) rfl rfl (Nat.le_of_ble_eq_true rfl) h (fun p e s0 m args below meth c A ls X hl => t_W_pc X s ls  hl)
set_option maxHeartbeats 4000000 in
set_option maxRecDepth 100000 in
theorem t_W_boot {p : Program} {l : Launch} {e : Env} {s0 : State} {m : MethodId} {args : Array Value} {below : List Frame} {meth : Method} {c : Code} {D : va_G} {A : Nat → Prop} {dI : Nat → ClassId} {ad : Nat → Nat} (X : CX p s0 m args meth c D vwCl (tyE dI) nwE A prog_1_method_8_code 2 (some .boolean) (Cond.code y_W_boot prog_1_method_8_code 2 (some .boolean) :: WS) R_W) (a1 : Int32) (s : eS) (ls : Array Slot)  (hl : lv_has ls 2 [(0, .ref (ad 0)), (1, .int a1)]) : GG p l e rm_W_boot s0 m args below meth c D vwCl (tyE dI) A (wE dI ad) 0 0 (QM below args s0 D vwCl (tyE dI) A (wE dI ad) rvI) (f_W_boot a1 s) (F0 m 0 ls []) s := by
  unfold f_W_boot
  refine gg_aload_n X 0 d_W_boot_0 rfl (lv_at hl 0 rfl) ?_
  refine gg_get_W_running X 1 (Or.inl (List.mem_cons_of_mem _ w_87)) d_W_boot_1 ?_
  refine gg_iconst X 4 (-1 : Int32) d_W_boot_4 (by decide) ?_
  refine gg_icmp_eq X 5 10 d_W_boot_5 rfl (fun _ => ?_) (fun _ => ?_)
  · refine gg_aload_n X 10 d_W_boot_10 rfl (lv_at hl 0 rfl) ?_
    refine gg_get_W_system X 11 (Or.inl (List.mem_cons_of_mem _ w_84)) d_W_boot_11 ?_
    refine gg_iload_n X 14 d_W_boot_14 rfl (lv_at hl 1 rfl) ?_
    refine gg_put_C_pc X 15 (by decide) (Or.inr ⟨_, nw_3⟩) d_W_boot_15 (fun s1 => ?_)
    refine gg_aload_n X 18 d_W_boot_18 rfl (lv_at hl 0 rfl) ?_
    refine gg_iconst X 19 (0 : Int32) d_W_boot_19 (by decide) ?_
    refine gg_put_W_halted X 20 (Or.inl (List.mem_cons_of_mem _ w_86)) rfl rfl d_W_boot_20 (fun s2 => ?_)
    refine gg_iconst X 23 (1 : Int32) d_W_boot_23 (by decide) ?_
    exact gg_zretk X 24 rfl d_W_boot_24
  · refine gg_iconst X 8 (0 : Int32) d_W_boot_8 (by decide) ?_
    exact gg_zretk X 9 rfl d_W_boot_9
theorem M_W_boot (l : Launch) (D : va_G) (dI : Nat → ClassId) (ad : Nat → Nat) (s : eS) (a1 : Int32)  {r : Int32} {s' : eS} (h : f_W_boot a1 s = some (r, s')) (sz : Nat) : Met l y_W_boot (Cond.code y_W_boot prog_1_method_8_code 2 (some .boolean) :: WS) rm_W_boot (Px (wE dI ad) D vwCl (tyE dI) nwE sz s [.ref (ad 0), .int a1]) (Qx rvI (wE dI ad) D vwCl (tyE dI) (va_A ((wE dI ad) s) sz) r s') 0 0 (va_A ((wE dI ad) s) sz) :=
  met_of [.ref (ad 0), .int a1] (by decide) rfl rfl (Nat.le_of_ble_eq_true rfl) h (fun p e s0 m args below meth c A ls X hl => t_W_boot X a1 s ls  hl)
set_option maxHeartbeats 4000000 in
set_option maxRecDepth 100000 in
theorem t_W_halted {p : Program} {l : Launch} {e : Env} {s0 : State} {m : MethodId} {args : Array Value} {below : List Frame} {meth : Method} {c : Code} {D : va_G} {A : Nat → Prop} {dI : Nat → ClassId} {ad : Nat → Nat} (X : CX p s0 m args meth c D vwCl (tyE dI) nwE A prog_1_method_9_code 1 (some .boolean) (Cond.code y_W_halted prog_1_method_9_code 1 (some .boolean) :: WS) R_W)  (s : eS) (ls : Array Slot)  (hl : lv_has ls 1 [(0, .ref (ad 0))]) : GG p l e rm_W_halted s0 m args below meth c D vwCl (tyE dI) A (wE dI ad) 0 0 (QM below args s0 D vwCl (tyE dI) A (wE dI ad) rvI) (f_W_halted s) (F0 m 0 ls []) s := by
  unfold f_W_halted
  refine gg_aload_n X 0 d_W_halted_0 rfl (lv_at hl 0 rfl) ?_
  refine gg_get_W_halted X 1 (Or.inl (List.mem_cons_of_mem _ w_86)) d_W_halted_1 ?_
  exact gg_zret X 4 d_W_halted_4
theorem M_W_halted (l : Launch) (D : va_G) (dI : Nat → ClassId) (ad : Nat → Nat) (s : eS)   {r : Int32} {s' : eS} (h : f_W_halted s = some (r, s')) (sz : Nat) : Met l y_W_halted (Cond.code y_W_halted prog_1_method_9_code 1 (some .boolean) :: WS) rm_W_halted (Px (wE dI ad) D vwCl (tyE dI) nwE sz s [.ref (ad 0)]) (Qx rvI (wE dI ad) D vwCl (tyE dI) (va_A ((wE dI ad) s) sz) r s') 0 0 (va_A ((wE dI ad) s) sz) :=
  met_of [.ref (ad 0)] (by decide) rfl rfl (Nat.le_of_ble_eq_true rfl) h (fun p e s0 m args below meth c A ls X hl => t_W_halted X s ls  hl)
set_option maxHeartbeats 4000000 in
set_option maxRecDepth 100000 in
theorem t_W_isRegion_14 {p : Program} {l : Launch} {e : Env} {s0 : State} {m : MethodId} {args : Array Value} {below : List Frame} {meth : Method} {c : Code} {D : va_G} {A : Nat → Prop} {dI : Nat → ClassId} {ad : Nat → Nat} (X : CX p s0 m args meth c D vwCl (tyE dI) nwE A prog_1_method_23_code 1 (some .boolean) (Cond.code y_W_isRegion prog_1_method_23_code 1 (some .boolean) :: WS) R_W)  (s : eS) (ls : Array Slot)  (hl : lv_has ls 1 []) : GG p l e rm_W_isRegion s0 m args below meth c D vwCl (tyE dI) A (wE dI ad) 0 0 (QM below args s0 D vwCl (tyE dI) A (wE dI ad) rvI) (f_W_isRegion_14 s) (F0 m 14 ls []) s := by
  unfold f_W_isRegion_14
  refine gg_iconst X 14 (0 : Int32) d_W_isRegion_14 (by decide) ?_
  exact gg_zretk X 15 rfl d_W_isRegion_15
set_option maxHeartbeats 4000000 in
set_option maxRecDepth 100000 in
theorem t_W_isRegion {p : Program} {l : Launch} {e : Env} {s0 : State} {m : MethodId} {args : Array Value} {below : List Frame} {meth : Method} {c : Code} {D : va_G} {A : Nat → Prop} {dI : Nat → ClassId} {ad : Nat → Nat} (X : CX p s0 m args meth c D vwCl (tyE dI) nwE A prog_1_method_23_code 1 (some .boolean) (Cond.code y_W_isRegion prog_1_method_23_code 1 (some .boolean) :: WS) R_W) (a0 : Int32) (s : eS) (ls : Array Slot)  (hl : lv_has ls 1 [(0, .int a0)]) : GG p l e rm_W_isRegion s0 m args below meth c D vwCl (tyE dI) A (wE dI ad) 0 0 (QM below args s0 D vwCl (tyE dI) A (wE dI ad) rvI) (f_W_isRegion a0 s) (F0 m 0 ls []) s := by
  unfold f_W_isRegion
  refine gg_iload_n X 0 d_W_isRegion_0 rfl (lv_at hl 0 rfl) ?_
  refine gg_if_lt X 1 14 d_W_isRegion_1 rfl (fun _ => ?_) (fun _ => ?_)
  · exact t_W_isRegion_14 X s _  (lv_sub hl [] rfl)
  · refine gg_iload_n X 4 d_W_isRegion_4 rfl (lv_at hl 0 rfl) ?_
    refine gg_bipush X 5 (16 : Int32) d_W_isRegion_5 (by decide) ?_
    refine gg_icmp_ge X 7 14 d_W_isRegion_7 rfl (fun _ => ?_) (fun _ => ?_)
    · exact t_W_isRegion_14 X s _  (lv_sub hl [] rfl)
    · refine gg_iconst X 10 (1 : Int32) d_W_isRegion_10 (by decide) ?_
      refine gg_goto X 11 15 d_W_isRegion_11 rfl ?_
      exact gg_zretk X 15 rfl d_W_isRegion_15
theorem M_W_isRegion (l : Launch) (D : va_G) (dI : Nat → ClassId) (ad : Nat → Nat) (s : eS) (a0 : Int32)  {r : Int32} {s' : eS} (h : f_W_isRegion a0 s = some (r, s')) (sz : Nat) : Met l y_W_isRegion (Cond.code y_W_isRegion prog_1_method_23_code 1 (some .boolean) :: WS) rm_W_isRegion (Px (wE dI ad) D vwCl (tyE dI) nwE sz s [.int a0]) (Qx rvI (wE dI ad) D vwCl (tyE dI) (va_A ((wE dI ad) s) sz) r s') 0 0 (va_A ((wE dI ad) s) sz) :=
  met_of [.int a0] (by decide) rfl rfl (Nat.le_of_ble_eq_true rfl) h (fun p e s0 m args below meth c A ls X hl => t_W_isRegion X a0 s ls  hl)
set_option maxHeartbeats 4000000 in
set_option maxRecDepth 100000 in
theorem t_W_allFree_2 {p : Program} {l : Launch} {e : Env} {s0 : State} {m : MethodId} {args : Array Value} {below : List Frame} {meth : Method} {c : Code} {D : va_G} {A : Nat → Prop} {dI : Nat → ClassId} {ad : Nat → Nat} (X : CX p s0 m args meth c D vwCl (tyE dI) nwE A prog_1_method_41_code 4 (some .boolean) (Cond.code y_W_allFree prog_1_method_41_code 4 (some .boolean) :: WS) R_W) : ∀ (fl : Nat) (x1 : Int32) (x2 : Int32) (x3 : Int32) (s : eS) (ls : Array Slot), lv_has ls 4 [(0, .ref (ad 0)), (1, .int x1), (2, .int x2), (3, .int x3)] → GG p l e rm_W_allFree s0 m args below meth c D vwCl (tyE dI) A (wE dI ad) 0 0 (QM below args s0 D vwCl (tyE dI) A (wE dI ad) rvI) (f_W_allFree_2 fl x1 x2 x3 s) (F0 m 2 ls []) s := by
  intro fl
  induction fl with
  | zero =>
    intro x1 x2 x3 s ls hl
    rw [f_W_allFree_2]
    exact gg_none
  | succ fl ih =>
    intro x1 x2 x3 s ls hl
    rw [f_W_allFree_2]
    refine gg_iload_n X 2 d_W_allFree_2 rfl (lv_at hl 3 rfl) ?_
    refine gg_iload_n X 3 d_W_allFree_3 rfl (lv_at hl 2 rfl) ?_
    refine gg_icmp_ge X 4 26 d_W_allFree_4 rfl (fun _ => ?_) (fun _ => ?_)
    · refine gg_iconst X 26 (1 : Int32) d_W_allFree_26 (by decide) ?_
      exact gg_zretk X 27 rfl d_W_allFree_27
    · refine gg_aload_n X 7 d_W_allFree_7 rfl (lv_at hl 0 rfl) ?_
      refine gg_get_W_kinds X 8 (Or.inl (List.mem_cons_of_mem _ w_82)) d_W_allFree_8 ?_
      refine gg_iload_n X 11 d_W_allFree_11 rfl (lv_at hl 1 rfl) ?_
      refine gg_iload_n X 12 d_W_allFree_12 rfl (lv_at hl 3 rfl) ?_
      refine gg_iadd X 13 d_W_allFree_13 ?_
      refine gg_ald_KIN X 14 d_W_allFree_14 ?_
      refine gg_if_eq X 15 20 d_W_allFree_15 rfl (fun _ => ?_) (fun _ => ?_)
      · refine gg_iinc X 20 (k := 3) (1 : Int32) (fun v1 => [(3, .int v1), (0, .ref (ad 0)), (1, .int x1), (2, .int x2)]) d_W_allFree_20 hl rfl (by decide) (by decide) (fun _ => rfl) (fun v1 ls hl => ?_)
        refine gg_goto X 23 2 d_W_allFree_23 rfl ?_
        exact ih x1 x2 v1 s _  (lv_sub hl [1, 2, 3, 0] rfl)
      · refine gg_iconst X 18 (0 : Int32) d_W_allFree_18 (by decide) ?_
        exact gg_zretk X 19 rfl d_W_allFree_19
set_option maxHeartbeats 4000000 in
set_option maxRecDepth 100000 in
theorem t_W_allFree {p : Program} {l : Launch} {e : Env} {s0 : State} {m : MethodId} {args : Array Value} {below : List Frame} {meth : Method} {c : Code} {D : va_G} {A : Nat → Prop} {dI : Nat → ClassId} {ad : Nat → Nat} (X : CX p s0 m args meth c D vwCl (tyE dI) nwE A prog_1_method_41_code 4 (some .boolean) (Cond.code y_W_allFree prog_1_method_41_code 4 (some .boolean) :: WS) R_W) (a1 : Int32) (a2 : Int32) (s : eS) (ls : Array Slot)  (hl : lv_has ls 4 [(0, .ref (ad 0)), (1, .int a1), (2, .int a2)]) : GG p l e rm_W_allFree s0 m args below meth c D vwCl (tyE dI) A (wE dI ad) 0 0 (QM below args s0 D vwCl (tyE dI) A (wE dI ad) rvI) (f_W_allFree a1 a2 s) (F0 m 0 ls []) s := by
  unfold f_W_allFree
  refine gg_iconst X 0 (0 : Int32) d_W_allFree_0 (by decide) ?_
  refine gg_istore_n X 1 (fun v1 => [(3, .int v1), (0, .ref (ad 0)), (1, .int a1), (2, .int a2)]) d_W_allFree_1 rfl hl (by decide) (fun _ => rfl) (fun v1 ls hl => ?_)
  exact t_W_allFree_2 X fu a1 a2 v1 s _  (lv_sub hl [1, 2, 3, 0] rfl)
theorem M_W_allFree (l : Launch) (D : va_G) (dI : Nat → ClassId) (ad : Nat → Nat) (s : eS) (a1 : Int32) (a2 : Int32)  {r : Int32} {s' : eS} (h : f_W_allFree a1 a2 s = some (r, s')) (sz : Nat) : Met l y_W_allFree (Cond.code y_W_allFree prog_1_method_41_code 4 (some .boolean) :: WS) rm_W_allFree (Px (wE dI ad) D vwCl (tyE dI) nwE sz s [.ref (ad 0), .int a1, .int a2]) (Qx rvI (wE dI ad) D vwCl (tyE dI) (va_A ((wE dI ad) s) sz) r s') 0 0 (va_A ((wE dI ad) s) sz) :=
  met_of [.ref (ad 0), .int a1, .int a2] (by decide) rfl rfl (Nat.le_of_ble_eq_true rfl) h (fun p e s0 m args below meth c A ls X hl => t_W_allFree X a1 a2 s ls  hl)
set_option maxHeartbeats 4000000 in
set_option maxRecDepth 100000 in
theorem t_W_leastAbsent_2 {p : Program} {l : Launch} {e : Env} {s0 : State} {m : MethodId} {args : Array Value} {below : List Frame} {meth : Method} {c : Code} {D : va_G} {A : Nat → Prop} {dI : Nat → ClassId} {ad : Nat → Nat} (X : CX p s0 m args meth c D vwCl (tyE dI) nwE A prog_1_method_42_code 2 (some .int) (Cond.code y_W_leastAbsent prog_1_method_42_code 2 (some .int) :: WS) R_W) : ∀ (fl : Nat) (x1 : Int32) (s : eS) (ls : Array Slot), lv_has ls 2 [(0, .ref (ad 0)), (1, .int x1)] → GG p l e rm_W_leastAbsent s0 m args below meth c D vwCl (tyE dI) A (wE dI ad) 0 0 (QM below args s0 D vwCl (tyE dI) A (wE dI ad) rvI) (f_W_leastAbsent_2 fl x1 s) (F0 m 2 ls []) s := by
  intro fl
  induction fl with
  | zero =>
    intro x1 s ls hl
    rw [f_W_leastAbsent_2]
    exact gg_none
  | succ fl ih =>
    intro x1 s ls hl
    rw [f_W_leastAbsent_2]
    refine gg_iload_n X 2 d_W_leastAbsent_2 rfl (lv_at hl 1 rfl) ?_
    refine gg_iconst X 3 (3 : Int32) d_W_leastAbsent_3 (by decide) ?_
    refine gg_icmp_ge X 4 27 d_W_leastAbsent_4 rfl (fun _ => ?_) (fun _ => ?_)
    · refine gg_iconst X 27 (3 : Int32) d_W_leastAbsent_27 (by decide) ?_
      exact gg_iret X 28 d_W_leastAbsent_28
    · refine gg_aload_n X 7 d_W_leastAbsent_7 rfl (lv_at hl 0 rfl) ?_
      refine gg_get_W_enclaves X 8 (Or.inl (List.mem_cons_of_mem _ w_83)) d_W_leastAbsent_8 ?_
      refine gg_iload_n X 11 d_W_leastAbsent_11 rfl (lv_at hl 1 rfl) ?_
      refine gg_ald_ENA X 12 d_W_leastAbsent_12 (fun hi1 => ?_)
      refine gg_get_V_state X 13 (ixb hi1) (Or.inr ⟨_, nw_9⟩) d_W_leastAbsent_13 ?_
      refine gg_if_ne X 16 21 d_W_leastAbsent_16 rfl (fun _ => ?_) (fun _ => ?_)
      · refine gg_iinc X 21 (k := 1) (1 : Int32) (fun v2 => [(1, .int v2), (0, .ref (ad 0))]) d_W_leastAbsent_21 hl rfl (by decide) (by decide) (fun _ => rfl) (fun v2 ls hl => ?_)
        refine gg_goto X 24 2 d_W_leastAbsent_24 rfl ?_
        exact ih v2 s _  (lv_sub hl [1, 0] rfl)
      · refine gg_iload_n X 19 d_W_leastAbsent_19 rfl (lv_at hl 1 rfl) ?_
        exact gg_iret X 20 d_W_leastAbsent_20
set_option maxHeartbeats 4000000 in
set_option maxRecDepth 100000 in
theorem t_W_leastAbsent {p : Program} {l : Launch} {e : Env} {s0 : State} {m : MethodId} {args : Array Value} {below : List Frame} {meth : Method} {c : Code} {D : va_G} {A : Nat → Prop} {dI : Nat → ClassId} {ad : Nat → Nat} (X : CX p s0 m args meth c D vwCl (tyE dI) nwE A prog_1_method_42_code 2 (some .int) (Cond.code y_W_leastAbsent prog_1_method_42_code 2 (some .int) :: WS) R_W)  (s : eS) (ls : Array Slot)  (hl : lv_has ls 2 [(0, .ref (ad 0))]) : GG p l e rm_W_leastAbsent s0 m args below meth c D vwCl (tyE dI) A (wE dI ad) 0 0 (QM below args s0 D vwCl (tyE dI) A (wE dI ad) rvI) (f_W_leastAbsent s) (F0 m 0 ls []) s := by
  unfold f_W_leastAbsent
  refine gg_iconst X 0 (0 : Int32) d_W_leastAbsent_0 (by decide) ?_
  refine gg_istore_n X 1 (fun v1 => [(1, .int v1), (0, .ref (ad 0))]) d_W_leastAbsent_1 rfl hl (by decide) (fun _ => rfl) (fun v1 ls hl => ?_)
  exact t_W_leastAbsent_2 X fu v1 s _  (lv_sub hl [1, 0] rfl)
theorem M_W_leastAbsent (l : Launch) (D : va_G) (dI : Nat → ClassId) (ad : Nat → Nat) (s : eS)   {r : Int32} {s' : eS} (h : f_W_leastAbsent s = some (r, s')) (sz : Nat) : Met l y_W_leastAbsent (Cond.code y_W_leastAbsent prog_1_method_42_code 2 (some .int) :: WS) rm_W_leastAbsent (Px (wE dI ad) D vwCl (tyE dI) nwE sz s [.ref (ad 0)]) (Qx rvI (wE dI ad) D vwCl (tyE dI) (va_A ((wE dI ad) s) sz) r s') 0 0 (va_A ((wE dI ad) s) sz) :=
  met_of [.ref (ad 0)] (by decide) rfl rfl (Nat.le_of_ble_eq_true rfl) h (fun p e s0 m args below meth c A ls X hl => t_W_leastAbsent X s ls  hl)
set_option maxHeartbeats 4000000 in
set_option maxRecDepth 100000 in
theorem t_V_become_17 {p : Program} {l : Launch} {e : Env} {s0 : State} {m : MethodId} {args : Array Value} {below : List Frame} {meth : Method} {c : Code} {D : va_G} {A : Nat → Prop} {dI : Nat → ClassId} {ad : Nat → Nat} (X : CX p s0 m args meth c D vwCl (tyE dI) nwE A prog_3_method_2_code 3 none (Cond.code y_V_become prog_3_method_2_code 3 none :: WS) R_V) : ∀ (fl : Nat) (m0 : Nat) (x2 : Int32) (s : eS) (ls : Array Slot), m0 < 3 → lv_has ls 3 [(0, .ref (ad (5 + m0))), (2, .int x2)] → GG p l e rm_V_become s0 m args below meth c D vwCl (tyE dI) A (wE dI ad) 0 0 (QM below args s0 D vwCl (tyE dI) A (wE dI ad) rvV) (f_V_become_17 fl m0 x2 s) (F0 m 17 ls []) s := by
  intro fl
  induction fl with
  | zero =>
    intro m0 x2 s ls hm0 hl
    rw [f_V_become_17]
    exact gg_none
  | succ fl ih =>
    intro m0 x2 s ls hm0 hl
    rw [f_V_become_17]
    refine gg_iload_n X 17 d_V_become_17 rfl (lv_at hl 1 rfl) ?_
    refine gg_iconst X 18 (2 : Int32) d_V_become_18 (by decide) ?_
    refine gg_icmp_ge X 19 38 d_V_become_19 rfl (fun _ => ?_) (fun _ => ?_)
    · exact gg_vret X 38 d_V_become_38
    · refine gg_aload_n X 22 d_V_become_22 rfl (lv_at hl 0 rfl) ?_
      refine gg_get_V_threads X 23 hm0 (Or.inl (List.mem_cons_of_mem _ w_61)) d_V_become_23 ?_
      refine gg_iload_n X 26 d_V_become_26 rfl (lv_at hl 1 rfl) ?_
      refine gg_ald_TA X 27 hm0 d_V_become_27 (fun hi1 => ?_)
      refine gg_iconst X 28 (0 : Int32) d_V_become_28 (by decide) ?_
      refine gg_put_T_state X 29 (ixb2 hm0 (ixb hi1)) (Or.inr ⟨_, nw_5⟩) d_V_become_29 (fun s2 => ?_)
      refine gg_iinc X 32 (k := 1) (1 : Int32) (fun v3 => [(2, .int v3), (0, .ref (ad (5 + m0)))]) d_V_become_32 hl rfl (by decide) (by decide) (fun _ => rfl) (fun v3 ls hl => ?_)
      refine gg_goto X 35 17 d_V_become_35 rfl ?_
      exact ih m0 v3 s2 _ hm0 (lv_sub hl [1, 0] rfl)
set_option maxHeartbeats 4000000 in
set_option maxRecDepth 100000 in
theorem t_V_become {p : Program} {l : Launch} {e : Env} {s0 : State} {m : MethodId} {args : Array Value} {below : List Frame} {meth : Method} {c : Code} {D : va_G} {A : Nat → Prop} {dI : Nat → ClassId} {ad : Nat → Nat} (X : CX p s0 m args meth c D vwCl (tyE dI) nwE A prog_3_method_2_code 3 none (Cond.code y_V_become prog_3_method_2_code 3 none :: WS) R_V) (n0 : Nat) (a1 : Int32) (s : eS) (ls : Array Slot) (hb0 : n0 < 3) (hl : lv_has ls 3 [(0, .ref (ad (5 + n0))), (1, .int a1)]) : GG p l e rm_V_become s0 m args below meth c D vwCl (tyE dI) A (wE dI ad) 0 0 (QM below args s0 D vwCl (tyE dI) A (wE dI ad) rvV) (f_V_become n0 a1 s) (F0 m 0 ls []) s := by
  unfold f_V_become
  refine gg_aload_n X 0 d_V_become_0 rfl (lv_at hl 0 rfl) ?_
  refine gg_iload_n X 1 d_V_become_1 rfl (lv_at hl 1 rfl) ?_
  refine gg_put_V_state X 2 hb0 (Or.inl (List.mem_cons_of_mem _ w_63)) d_V_become_2 (fun s1 => ?_)
  refine gg_aload_n X 5 d_V_become_5 rfl (lv_at hl 0 rfl) ?_
  refine gg_iconst X 6 (0 : Int32) d_V_become_6 (by decide) ?_
  refine gg_put_V_measure X 7 hb0 (Or.inl (List.mem_cons_of_mem _ w_65)) d_V_become_7 (fun s2 => ?_)
  refine gg_aload_n X 10 d_V_become_10 rfl (lv_at hl 0 rfl) ?_
  refine gg_iconst X 11 (0 : Int32) d_V_become_11 (by decide) ?_
  refine gg_put_V_loads X 12 hb0 (Or.inl (List.mem_cons_of_mem _ w_67)) d_V_become_12 (fun s3 => ?_)
  refine gg_iconst X 15 (0 : Int32) d_V_become_15 (by decide) ?_
  refine gg_istore_n X 16 (fun v4 => [(2, .int v4), (0, .ref (ad (5 + n0))), (1, .int a1)]) d_V_become_16 rfl hl (by decide) (fun _ => rfl) (fun v4 ls hl => ?_)
  exact t_V_become_17 X fu n0 v4 s3 _ hb0 (lv_sub hl [1, 0] rfl)
theorem M_V_become (l : Launch) (D : va_G) (dI : Nat → ClassId) (ad : Nat → Nat) (s : eS) (n0 : Nat) (a1 : Int32) (hb0 : n0 < 3) {r : Unit} {s' : eS} (h : f_V_become n0 a1 s = some (r, s')) (sz : Nat) : Met l y_V_become (Cond.code y_V_become prog_3_method_2_code 3 none :: WS) rm_V_become (Px (wE dI ad) D vwCl (tyE dI) nwE sz s [.ref (ad (5 + n0)), .int a1]) (Qx rvV (wE dI ad) D vwCl (tyE dI) (va_A ((wE dI ad) s) sz) r s') 0 0 (va_A ((wE dI ad) s) sz) :=
  met_of [.ref (ad (5 + n0)), .int a1] (by decide) rfl rfl (Nat.le_of_ble_eq_true rfl) h (fun p e s0 m args below meth c A ls X hl => t_V_become X n0 a1 s ls hb0 hl)
set_option maxHeartbeats 4000000 in
set_option maxRecDepth 100000 in
theorem t_W_mix {p : Program} {l : Launch} {e : Env} {s0 : State} {m : MethodId} {args : Array Value} {below : List Frame} {meth : Method} {c : Code} {D : va_G} {A : Nat → Prop} {dI : Nat → ClassId} {ad : Nat → Nat} (X : CX p s0 m args meth c D vwCl (tyE dI) nwE A prog_1_method_26_code 3 (some .int) (Cond.code y_W_mix prog_1_method_26_code 3 (some .int) :: WS) R_W) (a0 : Int32) (a1 : Int32) (s : eS) (ls : Array Slot)  (hl : lv_has ls 3 [(0, .int a0), (1, .int a1)]) : GG p l e rm_W_mix s0 m args below meth c D vwCl (tyE dI) A (wE dI ad) 0 0 (QM below args s0 D vwCl (tyE dI) A (wE dI ad) rvI) (f_W_mix a0 a1 s) (F0 m 0 ls []) s := by
  unfold f_W_mix
  refine gg_iload_n X 0 d_W_mix_0 rfl (lv_at hl 0 rfl) ?_
  refine gg_iload_n X 1 d_W_mix_1 rfl (lv_at hl 1 rfl) ?_
  refine gg_ixor X 2 d_W_mix_2 ?_
  refine gg_ldc X 3 (1390208809 : Int32) (List.mem_cons_of_mem _ w_189) d_W_mix_3 ?_
  refine gg_imul X 5 d_W_mix_5 ?_
  refine gg_istore_n X 6 (fun v1 => [(2, .int v1), (0, .int a0), (1, .int a1)]) d_W_mix_6 rfl hl (by decide) (fun _ => rfl) (fun v1 ls hl => ?_)
  refine gg_iload_n X 7 d_W_mix_7 rfl (lv_at hl 0 rfl) ?_
  refine gg_iload_n X 8 d_W_mix_8 rfl (lv_at hl 0 rfl) ?_
  refine gg_bipush X 9 (15 : Int32) d_W_mix_9 (by decide) ?_
  refine gg_iushr X 11 d_W_mix_11 ?_
  refine gg_ixor X 12 d_W_mix_12 ?_
  exact gg_iret X 13 d_W_mix_13
theorem M_W_mix (l : Launch) (D : va_G) (dI : Nat → ClassId) (ad : Nat → Nat) (s : eS) (a0 : Int32) (a1 : Int32)  {r : Int32} {s' : eS} (h : f_W_mix a0 a1 s = some (r, s')) (sz : Nat) : Met l y_W_mix (Cond.code y_W_mix prog_1_method_26_code 3 (some .int) :: WS) rm_W_mix (Px (wE dI ad) D vwCl (tyE dI) nwE sz s [.int a0, .int a1]) (Qx rvI (wE dI ad) D vwCl (tyE dI) (va_A ((wE dI ad) s) sz) r s') 0 0 (va_A ((wE dI ad) s) sz) :=
  met_of [.int a0, .int a1] (by decide) rfl rfl (Nat.le_of_ble_eq_true rfl) h (fun p e s0 m args below meth c A ls X hl => t_W_mix X a0 a1 s ls  hl)
set_option maxHeartbeats 4000000 in
set_option maxRecDepth 100000 in
theorem t_V_add {p : Program} {l : Launch} {e : Env} {s0 : State} {m : MethodId} {args : Array Value} {below : List Frame} {meth : Method} {c : Code} {D : va_G} {A : Nat → Prop} {dI : Nat → ClassId} {ad : Nat → Nat} (X : CX p s0 m args meth c D vwCl (tyE dI) nwE A prog_3_method_3_code 2 none (Cond.code y_V_add prog_3_method_3_code 2 none :: WS) R_V) (n0 : Nat) (a1 : Int32) (s : eS) (ls : Array Slot) (hb0 : n0 < 3) (hl : lv_has ls 2 [(0, .ref (ad (5 + n0))), (1, .int a1)]) : GG p l e rm_V_add s0 m args below meth c D vwCl (tyE dI) A (wE dI ad) 0 0 (QM below args s0 D vwCl (tyE dI) A (wE dI ad) rvV) (f_V_add n0 a1 s) (F0 m 0 ls []) s := by
  unfold f_V_add
  refine gg_aload_n X 0 d_V_add_0 rfl (lv_at hl 0 rfl) ?_
  refine gg_aload_n X 1 d_V_add_1 rfl (lv_at hl 0 rfl) ?_
  refine gg_get_V_measure X 2 hb0 (Or.inl (List.mem_cons_of_mem _ w_65)) d_V_add_2 ?_
  refine gg_iload_n X 5 d_V_add_5 rfl (lv_at hl 1 rfl) ?_
  refine gg_callSN X 6 nwOk_E [.int (s 4 n0), .int a1] [.ref (ad (5 + n0))] (fun _ _ h sz => M_W_mix l D dI ad _ (s 4 n0) a1  h sz) (⟨va_cnB 2 X.1.2.2.2.2 (gwB w_188) rfl rfl rfl (X.2.2.2.2.2 _ nw_17) (X.1.2.2.2.2 _ (List.mem_cons_of_mem _ w_1)) (by decide +kernel) ⟨by decide, by decide⟩, X.1.2.2.2.2 _ (List.mem_cons_of_mem _ w_187), trivial⟩) rfl hl.1 rfl (Nat.le_of_ble_eq_true rfl) ⟨Nat.zero_le _, Nat.zero_le _⟩ d_V_add_6 (fun r1 s2 ho3 => ?_)
  refine gg_show_i ?_
  refine gg_put_V_measure X 9 hb0 (Or.inl (List.mem_cons_of_mem _ w_65)) d_V_add_9 (fun s4 => ?_)
  exact gg_vret X 12 d_V_add_12
theorem M_V_add (l : Launch) (D : va_G) (dI : Nat → ClassId) (ad : Nat → Nat) (s : eS) (n0 : Nat) (a1 : Int32) (hb0 : n0 < 3) {r : Unit} {s' : eS} (h : f_V_add n0 a1 s = some (r, s')) (sz : Nat) : Met l y_V_add (Cond.code y_V_add prog_3_method_3_code 2 none :: WS) rm_V_add (Px (wE dI ad) D vwCl (tyE dI) nwE sz s [.ref (ad (5 + n0)), .int a1]) (Qx rvV (wE dI ad) D vwCl (tyE dI) (va_A ((wE dI ad) s) sz) r s') 0 0 (va_A ((wE dI ad) s) sz) :=
  met_of [.ref (ad (5 + n0)), .int a1] (by decide) rfl rfl (Nat.le_of_ble_eq_true rfl) h (fun p e s0 m args below meth c A ls X hl => t_V_add X n0 a1 s ls hb0 hl)
set_option maxHeartbeats 4000000 in
set_option maxRecDepth 100000 in
theorem t_W_create_28 {p : Program} {l : Launch} {e : Env} {s0 : State} {m : MethodId} {args : Array Value} {below : List Frame} {meth : Method} {c : Code} {D : va_G} {A : Nat → Prop} {dI : Nat → ClassId} {ad : Nat → Nat} (X : CX p s0 m args meth c D vwCl (tyE dI) nwE A prog_1_method_40_code 5 (some .int) (Cond.code y_W_create prog_1_method_40_code 5 (some .int) :: WS) R_W)  (s : eS) (ls : Array Slot)  (hl : lv_has ls 5 []) : GG p l e rm_W_create s0 m args below meth c D vwCl (tyE dI) A (wE dI ad) 0 0 (QM below args s0 D vwCl (tyE dI) A (wE dI ad) rvI) (f_W_create_28 s) (F0 m 28 ls []) s := by
  unfold f_W_create_28
  refine gg_bipush X 28 (-2 : Int32) d_W_create_28 (by decide) ?_
  exact gg_iret X 30 d_W_create_30
set_option maxHeartbeats 4000000 in
set_option maxRecDepth 100000 in
theorem t_W_create_59 {p : Program} {l : Launch} {e : Env} {s0 : State} {m : MethodId} {args : Array Value} {below : List Frame} {meth : Method} {c : Code} {D : va_G} {A : Nat → Prop} {dI : Nat → ClassId} {ad : Nat → Nat} (X : CX p s0 m args meth c D vwCl (tyE dI) nwE A prog_1_method_40_code 5 (some .int) (Cond.code y_W_create prog_1_method_40_code 5 (some .int) :: WS) R_W) : ∀ (fl : Nat) (x1 : Int32) (x2 : Int32) (x3 : Int32) (x4 : Int32) (s : eS) (ls : Array Slot), lv_has ls 5 [(0, .ref (ad 0)), (1, .int x1), (2, .int x2), (3, .int x3), (4, .int x4)] → GG p l e rm_W_create s0 m args below meth c D vwCl (tyE dI) A (wE dI ad) 0 0 (QM below args s0 D vwCl (tyE dI) A (wE dI ad) rvI) (f_W_create_59 fl x1 x2 x3 x4 s) (F0 m 59 ls []) s := by
  intro fl
  induction fl with
  | zero =>
    intro x1 x2 x3 x4 s ls hl
    rw [f_W_create_59]
    exact gg_none
  | succ fl ih =>
    intro x1 x2 x3 x4 s ls hl
    rw [f_W_create_59]
    refine gg_iload X 59 d_W_create_59 (lv_at hl 4 rfl) ?_
    refine gg_iload_n X 61 d_W_create_61 rfl (lv_at hl 2 rfl) ?_
    refine gg_icmp_ge X 62 83 d_W_create_62 rfl (fun _ => ?_) (fun _ => ?_)
    · refine gg_aload_n X 83 d_W_create_83 rfl (lv_at hl 0 rfl) ?_
      refine gg_get_W_enclaves X 84 (Or.inl (List.mem_cons_of_mem _ w_83)) d_W_create_84 ?_
      refine gg_iload_n X 87 d_W_create_87 rfl (lv_at hl 3 rfl) ?_
      refine gg_ald_ENA X 88 d_W_create_88 (fun hi1 => ?_)
      refine gg_astore X 89 3 (fun t2 => [(4, .ref (ad (5 + t2))), (0, .ref (ad 0)), (1, .int x1), (2, .int x2), (3, .int x3)]) d_W_create_89 hl (by decide) (fun _ => rfl) (ixb hi1) (fun t2 ls ht3 hl => ?_)
      refine gg_aload X 91 d_W_create_91 (lv_at hl 0 rfl) ?_
      refine gg_iconst X 93 (1 : Int32) d_W_create_93 (by decide) ?_
      refine gg_callVN X 94 nwOk_E [.int (1 : Int32)] [] (fun _ _ h sz => M_V_become l D dI ad _ t2 (1 : Int32) ht3 h sz) (⟨va_cnB 1 X.1.2.2.2.2 (gwB w_60) rfl rfl rfl (X.2.2.2.2.2 _ nw_15) (X.1.2.2.2.2 _ (List.mem_cons_of_mem _ w_2)) (by decide +kernel) ⟨by decide, by decide⟩, X.1.2.2.2.2 _ (List.mem_cons_of_mem _ w_59), X.1.2.2.2.2 _ (List.mem_cons_of_mem _ ws_V_become)⟩) (he_E_Enc ht3) rfl rfl hl.1 rfl (Nat.le_of_ble_eq_true rfl) ⟨Nat.zero_le _, Nat.zero_le _⟩ d_W_create_94 (fun r4 s5 ho6 => ?_)
      refine gg_show_v ?_
      refine gg_aload X 97 d_W_create_97 (lv_at hl 0 rfl) ?_
      refine gg_iconst X 99 (1 : Int32) d_W_create_99 (by decide) ?_
      refine gg_callVN X 100 nwOk_E [.int (1 : Int32)] [] (fun _ _ h sz => M_V_add l D dI ad _ t2 (1 : Int32) ht3 h sz) (⟨va_cnB 1 X.1.2.2.2.2 (gwB w_185) rfl rfl rfl (X.2.2.2.2.2 _ nw_16) (X.1.2.2.2.2 _ (List.mem_cons_of_mem _ w_2)) (by decide +kernel) ⟨by decide, by decide⟩, X.1.2.2.2.2 _ (List.mem_cons_of_mem _ w_184), X.1.2.2.2.2 _ (List.mem_cons_of_mem _ ws_V_add)⟩) (he_E_Enc ht3) rfl rfl hl.1 rfl (Nat.le_of_ble_eq_true rfl) ⟨Nat.zero_le _, Nat.zero_le _⟩ d_W_create_100 (fun r7 s8 ho9 => ?_)
      refine gg_show_v ?_
      refine gg_aload X 103 d_W_create_103 (lv_at hl 0 rfl) ?_
      refine gg_iload_n X 105 d_W_create_105 rfl (lv_at hl 2 rfl) ?_
      refine gg_callVN X 106 nwOk_E [.int x1] [] (fun _ _ h sz => M_V_add l D dI ad _ t2 x1 ht3 h sz) (⟨va_cnB 1 X.1.2.2.2.2 (gwB w_185) rfl rfl rfl (X.2.2.2.2.2 _ nw_16) (X.1.2.2.2.2 _ (List.mem_cons_of_mem _ w_2)) (by decide +kernel) ⟨by decide, by decide⟩, X.1.2.2.2.2 _ (List.mem_cons_of_mem _ w_184), X.1.2.2.2.2 _ (List.mem_cons_of_mem _ ws_V_add)⟩) (he_E_Enc ht3) rfl rfl hl.1 rfl (Nat.le_of_ble_eq_true rfl) ⟨Nat.zero_le _, Nat.zero_le _⟩ d_W_create_106 (fun r10 s11 ho12 => ?_)
      refine gg_show_v ?_
      refine gg_aload X 109 d_W_create_109 (lv_at hl 0 rfl) ?_
      refine gg_iload_n X 111 d_W_create_111 rfl (lv_at hl 3 rfl) ?_
      refine gg_callVN X 112 nwOk_E [.int x2] [] (fun _ _ h sz => M_V_add l D dI ad _ t2 x2 ht3 h sz) (⟨va_cnB 1 X.1.2.2.2.2 (gwB w_185) rfl rfl rfl (X.2.2.2.2.2 _ nw_16) (X.1.2.2.2.2 _ (List.mem_cons_of_mem _ w_2)) (by decide +kernel) ⟨by decide, by decide⟩, X.1.2.2.2.2 _ (List.mem_cons_of_mem _ w_184), X.1.2.2.2.2 _ (List.mem_cons_of_mem _ ws_V_add)⟩) (he_E_Enc ht3) rfl rfl hl.1 rfl (Nat.le_of_ble_eq_true rfl) ⟨Nat.zero_le _, Nat.zero_le _⟩ d_W_create_112 (fun r13 s14 ho15 => ?_)
      refine gg_show_v ?_
      refine gg_iload_n X 115 d_W_create_115 rfl (lv_at hl 4 rfl) ?_
      exact gg_iret X 116 d_W_create_116
    · refine gg_aload_n X 65 d_W_create_65 rfl (lv_at hl 0 rfl) ?_
      refine gg_get_W_kinds X 66 (Or.inl (List.mem_cons_of_mem _ w_82)) d_W_create_66 ?_
      refine gg_iload_n X 69 d_W_create_69 rfl (lv_at hl 1 rfl) ?_
      refine gg_iload X 70 d_W_create_70 (lv_at hl 4 rfl) ?_
      refine gg_iadd X 72 d_W_create_72 ?_
      refine gg_iconst X 73 (2 : Int32) d_W_create_73 (by decide) ?_
      refine gg_iload_n X 74 d_W_create_74 rfl (lv_at hl 3 rfl) ?_
      refine gg_iadd X 75 d_W_create_75 ?_
      refine gg_ast_KIN X 76 d_W_create_76 (fun s16 => ?_)
      refine gg_iinc X 77 (k := 4) (1 : Int32) (fun v17 => [(4, .int v17), (0, .ref (ad 0)), (1, .int x1), (2, .int x2), (3, .int x3)]) d_W_create_77 hl rfl (by decide) (by decide) (fun _ => rfl) (fun v17 ls hl => ?_)
      refine gg_goto X 80 59 d_W_create_80 rfl ?_
      exact ih x1 x2 x3 v17 s16 _  (lv_sub hl [1, 2, 3, 4, 0] rfl)
set_option maxHeartbeats 4000000 in
set_option maxRecDepth 100000 in
theorem t_W_create_22 {p : Program} {l : Launch} {e : Env} {s0 : State} {m : MethodId} {args : Array Value} {below : List Frame} {meth : Method} {c : Code} {D : va_G} {A : Nat → Prop} {dI : Nat → ClassId} {ad : Nat → Nat} (X : CX p s0 m args meth c D vwCl (tyE dI) nwE A prog_1_method_40_code 5 (some .int) (Cond.code y_W_create prog_1_method_40_code 5 (some .int) :: WS) R_W) (x1 : Int32) (x2 : Int32) (s : eS) (ls : Array Slot)  (hl : lv_has ls 5 [(0, .ref (ad 0)), (1, .int x1), (2, .int x2)]) : GG p l e rm_W_create s0 m args below meth c D vwCl (tyE dI) A (wE dI ad) 0 0 (QM below args s0 D vwCl (tyE dI) A (wE dI ad) rvI) (f_W_create_22 x1 x2 s) (F0 m 22 ls []) s := by
  unfold f_W_create_22
  refine gg_iload_n X 22 d_W_create_22 rfl (lv_at hl 1 rfl) ?_
  refine gg_iload_n X 23 d_W_create_23 rfl (lv_at hl 2 rfl) ?_
  refine gg_irem X 24 d_W_create_24 (fun _ => ?_)
  refine gg_if_eq X 25 31 d_W_create_25 rfl (fun _ => ?_) (fun _ => ?_)
  · refine gg_aload_n X 31 d_W_create_31 rfl (lv_at hl 0 rfl) ?_
    refine gg_iload_n X 32 d_W_create_32 rfl (lv_at hl 1 rfl) ?_
    refine gg_iload_n X 33 d_W_create_33 rfl (lv_at hl 2 rfl) ?_
    refine gg_callV X 34 nwOk_E [.int x1, .int x2] [] (fun _ _ h sz => M_W_allFree l D dI ad _ x1 x2  h sz) (cwV 2 X.1.2.2.2.2 (gwV w_173 w_175 ws_W_allFree w_1 w_176) rfl rfl rfl (by decide +kernel) ⟨by decide, by decide⟩) (he_E_Main) rfl rfl hl.1 rfl (Nat.le_of_ble_eq_true rfl) ⟨Nat.zero_le _, Nat.zero_le _⟩ d_W_create_34 (fun r1 s2 ho3 => ?_)
    refine gg_show_i ?_
    refine gg_if_ne X 37 43 d_W_create_37 rfl (fun _ => ?_) (fun _ => ?_)
    · refine gg_aload_n X 43 d_W_create_43 rfl (lv_at hl 0 rfl) ?_
      refine gg_callV X 44 nwOk_E [] [] (fun _ _ h sz => M_W_leastAbsent l D dI ad _   h sz) (cwV 0 X.1.2.2.2.2 (gwV w_177 w_179 ws_W_leastAbsent w_1 w_180) rfl rfl rfl (by decide +kernel) ⟨by decide, by decide⟩) (he_E_Main) rfl rfl hl.1 rfl (Nat.le_of_ble_eq_true rfl) ⟨Nat.zero_le _, Nat.zero_le _⟩ d_W_create_44 (fun r4 s5 ho6 => ?_)
      refine gg_show_i ?_
      refine gg_istore_n X 47 (fun v7 => [(3, .int v7), (0, .ref (ad 0)), (1, .int x1), (2, .int x2)]) d_W_create_47 rfl hl (by decide) (fun _ => rfl) (fun v7 ls hl => ?_)
      refine gg_iload_n X 48 d_W_create_48 rfl (lv_at hl 0 rfl) ?_
      refine gg_iconst X 49 (3 : Int32) d_W_create_49 (by decide) ?_
      refine gg_icmp_ne X 50 56 d_W_create_50 rfl (fun _ => ?_) (fun _ => ?_)
      · refine gg_iconst X 56 (0 : Int32) d_W_create_56 (by decide) ?_
        refine gg_istore X 57 (fun v8 => [(4, .int v8), (3, .int v7), (0, .ref (ad 0)), (1, .int x1), (2, .int x2)]) d_W_create_57 hl (by decide) (fun _ => rfl) (fun v8 ls hl => ?_)
        exact t_W_create_59 X fu x1 x2 v7 v8 s5 _  (lv_sub hl [2, 3, 4, 1, 0] rfl)
      · refine gg_bipush X 53 (-5 : Int32) d_W_create_53 (by decide) ?_
        exact gg_iret X 55 d_W_create_55
    · refine gg_bipush X 40 (-4 : Int32) d_W_create_40 (by decide) ?_
      exact gg_iret X 42 d_W_create_42
  · exact t_W_create_28 X s _  (lv_sub hl [] rfl)
set_option maxHeartbeats 4000000 in
set_option maxRecDepth 100000 in
theorem t_W_create {p : Program} {l : Launch} {e : Env} {s0 : State} {m : MethodId} {args : Array Value} {below : List Frame} {meth : Method} {c : Code} {D : va_G} {A : Nat → Prop} {dI : Nat → ClassId} {ad : Nat → Nat} (X : CX p s0 m args meth c D vwCl (tyE dI) nwE A prog_1_method_40_code 5 (some .int) (Cond.code y_W_create prog_1_method_40_code 5 (some .int) :: WS) R_W) (a1 : Int32) (a2 : Int32) (s : eS) (ls : Array Slot)  (hl : lv_has ls 5 [(0, .ref (ad 0)), (1, .int a1), (2, .int a2)]) : GG p l e rm_W_create s0 m args below meth c D vwCl (tyE dI) A (wE dI ad) 0 0 (QM below args s0 D vwCl (tyE dI) A (wE dI ad) rvI) (f_W_create a1 a2 s) (F0 m 0 ls []) s := by
  unfold f_W_create
  refine gg_iload_n X 0 d_W_create_0 rfl (lv_at hl 1 rfl) ?_
  refine gg_callS X 1 nwOk_E [.int a1] [] (fun _ _ h sz => M_W_isRegion l D dI ad _ a1  h sz) (cwS 1 X.1.2.2.2.2 (gwS w_170 w_171 w_1 w_172) rfl rfl rfl (by decide +kernel) ⟨by decide, by decide⟩) rfl hl.1 rfl (Nat.le_of_ble_eq_true rfl) ⟨Nat.zero_le _, Nat.zero_le _⟩ d_W_create_1 (fun r1 s2 ho3 => ?_)
  refine gg_show_i ?_
  refine gg_if_eq X 4 28 d_W_create_4 rfl (fun _ => ?_) (fun _ => ?_)
  · exact t_W_create_28 X s2 _  (lv_sub hl [] rfl)
  · refine gg_iload_n X 7 d_W_create_7 rfl (lv_at hl 2 rfl) ?_
    refine gg_iconst X 8 (1 : Int32) d_W_create_8 (by decide) ?_
    refine gg_icmp_eq X 9 22 d_W_create_9 rfl (fun _ => ?_) (fun _ => ?_)
    · exact t_W_create_22 X a1 a2 s2 _  (lv_sub hl [0, 1, 2] rfl)
    · refine gg_iload_n X 12 d_W_create_12 rfl (lv_at hl 2 rfl) ?_
      refine gg_iconst X 13 (2 : Int32) d_W_create_13 (by decide) ?_
      refine gg_icmp_eq X 14 22 d_W_create_14 rfl (fun _ => ?_) (fun _ => ?_)
      · exact t_W_create_22 X a1 a2 s2 _  (lv_sub hl [0, 1, 2] rfl)
      · refine gg_iload_n X 17 d_W_create_17 rfl (lv_at hl 2 rfl) ?_
        refine gg_iconst X 18 (4 : Int32) d_W_create_18 (by decide) ?_
        refine gg_icmp_ne X 19 28 d_W_create_19 rfl (fun _ => ?_) (fun _ => ?_)
        · exact t_W_create_28 X s2 _  (lv_sub hl [] rfl)
        · exact t_W_create_22 X a1 a2 s2 _  (lv_sub hl [0, 1, 2] rfl)
theorem M_W_create (l : Launch) (D : va_G) (dI : Nat → ClassId) (ad : Nat → Nat) (s : eS) (a1 : Int32) (a2 : Int32)  {r : Int32} {s' : eS} (h : f_W_create a1 a2 s = some (r, s')) (sz : Nat) : Met l y_W_create (Cond.code y_W_create prog_1_method_40_code 5 (some .int) :: WS) rm_W_create (Px (wE dI ad) D vwCl (tyE dI) nwE sz s [.ref (ad 0), .int a1, .int a2]) (Qx rvI (wE dI ad) D vwCl (tyE dI) (va_A ((wE dI ad) s) sz) r s') 0 0 (va_A ((wE dI ad) s) sz) :=
  met_of [.ref (ad 0), .int a1, .int a2] (by decide) rfl rfl (Nat.le_of_ble_eq_true rfl) h (fun p e s0 m args below meth c A ls X hl => t_W_create X a1 a2 s ls  hl)
set_option maxHeartbeats 4000000 in
set_option maxRecDepth 100000 in
theorem t_W_isEnclave_13 {p : Program} {l : Launch} {e : Env} {s0 : State} {m : MethodId} {args : Array Value} {below : List Frame} {meth : Method} {c : Code} {D : va_G} {A : Nat → Prop} {dI : Nat → ClassId} {ad : Nat → Nat} (X : CX p s0 m args meth c D vwCl (tyE dI) nwE A prog_1_method_24_code 1 (some .boolean) (Cond.code y_W_isEnclave prog_1_method_24_code 1 (some .boolean) :: WS) R_W)  (s : eS) (ls : Array Slot)  (hl : lv_has ls 1 []) : GG p l e rm_W_isEnclave s0 m args below meth c D vwCl (tyE dI) A (wE dI ad) 0 0 (QM below args s0 D vwCl (tyE dI) A (wE dI ad) rvI) (f_W_isEnclave_13 s) (F0 m 13 ls []) s := by
  unfold f_W_isEnclave_13
  refine gg_iconst X 13 (0 : Int32) d_W_isEnclave_13 (by decide) ?_
  exact gg_zretk X 14 rfl d_W_isEnclave_14
set_option maxHeartbeats 4000000 in
set_option maxRecDepth 100000 in
theorem t_W_isEnclave {p : Program} {l : Launch} {e : Env} {s0 : State} {m : MethodId} {args : Array Value} {below : List Frame} {meth : Method} {c : Code} {D : va_G} {A : Nat → Prop} {dI : Nat → ClassId} {ad : Nat → Nat} (X : CX p s0 m args meth c D vwCl (tyE dI) nwE A prog_1_method_24_code 1 (some .boolean) (Cond.code y_W_isEnclave prog_1_method_24_code 1 (some .boolean) :: WS) R_W) (a0 : Int32) (s : eS) (ls : Array Slot)  (hl : lv_has ls 1 [(0, .int a0)]) : GG p l e rm_W_isEnclave s0 m args below meth c D vwCl (tyE dI) A (wE dI ad) 0 0 (QM below args s0 D vwCl (tyE dI) A (wE dI ad) rvI) (f_W_isEnclave a0 s) (F0 m 0 ls []) s := by
  unfold f_W_isEnclave
  refine gg_iload_n X 0 d_W_isEnclave_0 rfl (lv_at hl 0 rfl) ?_
  refine gg_if_lt X 1 13 d_W_isEnclave_1 rfl (fun _ => ?_) (fun _ => ?_)
  · exact t_W_isEnclave_13 X s _  (lv_sub hl [] rfl)
  · refine gg_iload_n X 4 d_W_isEnclave_4 rfl (lv_at hl 0 rfl) ?_
    refine gg_iconst X 5 (3 : Int32) d_W_isEnclave_5 (by decide) ?_
    refine gg_icmp_ge X 6 13 d_W_isEnclave_6 rfl (fun _ => ?_) (fun _ => ?_)
    · exact t_W_isEnclave_13 X s _  (lv_sub hl [] rfl)
    · refine gg_iconst X 9 (1 : Int32) d_W_isEnclave_9 (by decide) ?_
      refine gg_goto X 10 14 d_W_isEnclave_10 rfl ?_
      exact gg_zretk X 14 rfl d_W_isEnclave_14
theorem M_W_isEnclave (l : Launch) (D : va_G) (dI : Nat → ClassId) (ad : Nat → Nat) (s : eS) (a0 : Int32)  {r : Int32} {s' : eS} (h : f_W_isEnclave a0 s = some (r, s')) (sz : Nat) : Met l y_W_isEnclave (Cond.code y_W_isEnclave prog_1_method_24_code 1 (some .boolean) :: WS) rm_W_isEnclave (Px (wE dI ad) D vwCl (tyE dI) nwE sz s [.int a0]) (Qx rvI (wE dI ad) D vwCl (tyE dI) (va_A ((wE dI ad) s) sz) r s') 0 0 (va_A ((wE dI ad) s) sz) :=
  met_of [.int a0] (by decide) rfl rfl (Nat.le_of_ble_eq_true rfl) h (fun p e s0 m args below meth c A ls X hl => t_W_isEnclave X a0 s ls  hl)
set_option maxHeartbeats 4000000 in
set_option maxRecDepth 100000 in
theorem t_W_load_21 {p : Program} {l : Launch} {e : Env} {s0 : State} {m : MethodId} {args : Array Value} {below : List Frame} {meth : Method} {c : Code} {D : va_G} {A : Nat → Prop} {dI : Nat → ClassId} {ad : Nat → Nat} (X : CX p s0 m args meth c D vwCl (tyE dI) nwE A prog_1_method_43_code 7 (some .int) (Cond.code y_W_load prog_1_method_43_code 7 (some .int) :: WS) R_W)  (s : eS) (ls : Array Slot)  (hl : lv_has ls 7 []) : GG p l e rm_W_load s0 m args below meth c D vwCl (tyE dI) A (wE dI ad) 0 0 (QM below args s0 D vwCl (tyE dI) A (wE dI ad) rvI) (f_W_load_21 s) (F0 m 21 ls []) s := by
  unfold f_W_load_21
  refine gg_bipush X 21 (-2 : Int32) d_W_load_21 (by decide) ?_
  exact gg_iret X 23 d_W_load_23
set_option maxHeartbeats 4000000 in
set_option maxRecDepth 100000 in
theorem t_W_load_66 {p : Program} {l : Launch} {e : Env} {s0 : State} {m : MethodId} {args : Array Value} {below : List Frame} {meth : Method} {c : Code} {D : va_G} {A : Nat → Prop} {dI : Nat → ClassId} {ad : Nat → Nat} (X : CX p s0 m args meth c D vwCl (tyE dI) nwE A prog_1_method_43_code 7 (some .int) (Cond.code y_W_load prog_1_method_43_code 7 (some .int) :: WS) R_W)  (s : eS) (ls : Array Slot)  (hl : lv_has ls 7 []) : GG p l e rm_W_load s0 m args below meth c D vwCl (tyE dI) A (wE dI ad) 0 0 (QM below args s0 D vwCl (tyE dI) A (wE dI ad) rvI) (f_W_load_66 s) (F0 m 66 ls []) s := by
  unfold f_W_load_66
  refine gg_bipush X 66 (-4 : Int32) d_W_load_66 (by decide) ?_
  exact gg_iret X 68 d_W_load_68
set_option maxHeartbeats 4000000 in
set_option maxRecDepth 100000 in
theorem t_W_load_108 {p : Program} {l : Launch} {e : Env} {s0 : State} {m : MethodId} {args : Array Value} {below : List Frame} {meth : Method} {c : Code} {D : va_G} {A : Nat → Prop} {dI : Nat → ClassId} {ad : Nat → Nat} (X : CX p s0 m args meth c D vwCl (tyE dI) nwE A prog_1_method_43_code 7 (some .int) (Cond.code y_W_load prog_1_method_43_code 7 (some .int) :: WS) R_W) : ∀ (fl : Nat) (x2 : Int32) (x3 : Int32) (m4 : Nat) (x5 : Int32) (s : eS) (ls : Array Slot), m4 < 3 → lv_has ls 7 [(0, .ref (ad 0)), (2, .int x2), (3, .int x3), (4, .ref (ad (5 + m4))), (5, .int x5)] → GG p l e rm_W_load s0 m args below meth c D vwCl (tyE dI) A (wE dI ad) 0 0 (QM below args s0 D vwCl (tyE dI) A (wE dI ad) rvI) (f_W_load_108 fl x2 x3 m4 x5 s) (F0 m 108 ls []) s := by
  intro fl
  induction fl with
  | zero =>
    intro x2 x3 m4 x5 s ls hm4 hl
    rw [f_W_load_108]
    exact gg_none
  | succ fl ih =>
    intro x2 x3 m4 x5 s ls hm4 hl
    rw [f_W_load_108]
    refine gg_iload X 108 d_W_load_108 (lv_at hl 4 rfl) ?_
    refine gg_bipush X 110 (16 : Int32) d_W_load_110 (by decide) ?_
    refine gg_icmp_ge X 112 156 d_W_load_112 rfl (fun _ => ?_) (fun _ => ?_)
    · refine gg_iconst X 156 (0 : Int32) d_W_load_156 (by decide) ?_
      exact gg_iret X 157 d_W_load_157
    · refine gg_aload_n X 115 d_W_load_115 rfl (lv_at hl 0 rfl) ?_
      refine gg_get_W_memory X 116 (Or.inl (List.mem_cons_of_mem _ w_81)) d_W_load_116 ?_
      refine gg_iload_n X 119 d_W_load_119 rfl (lv_at hl 2 rfl) ?_
      refine gg_bipush X 120 (16 : Int32) d_W_load_120 (by decide) ?_
      refine gg_imul X 122 d_W_load_122 ?_
      refine gg_iload X 123 d_W_load_123 (lv_at hl 4 rfl) ?_
      refine gg_iadd X 125 d_W_load_125 ?_
      refine gg_ald_MEM X 126 d_W_load_126 ?_
      refine gg_istore X 127 (fun v1 => [(6, .int v1), (0, .ref (ad 0)), (2, .int x2), (3, .int x3), (4, .ref (ad (5 + m4))), (5, .int x5)]) d_W_load_127 hl (by decide) (fun _ => rfl) (fun v1 ls hl => ?_)
      refine gg_aload_n X 129 d_W_load_129 rfl (lv_at hl 1 rfl) ?_
      refine gg_get_W_memory X 130 (Or.inl (List.mem_cons_of_mem _ w_81)) d_W_load_130 ?_
      refine gg_iload_n X 133 d_W_load_133 rfl (lv_at hl 2 rfl) ?_
      refine gg_bipush X 134 (16 : Int32) d_W_load_134 (by decide) ?_
      refine gg_imul X 136 d_W_load_136 ?_
      refine gg_iload X 137 d_W_load_137 (lv_at hl 5 rfl) ?_
      refine gg_iadd X 139 d_W_load_139 ?_
      refine gg_iload X 140 d_W_load_140 (lv_at hl 0 rfl) ?_
      refine gg_ast_MEM X 142 d_W_load_142 (fun s2 => ?_)
      refine gg_aload X 143 d_W_load_143 (lv_at hl 4 rfl) ?_
      refine gg_iload X 145 d_W_load_145 (lv_at hl 0 rfl) ?_
      refine gg_callVN X 147 nwOk_E [.int v1] [] (fun _ _ h sz => M_V_add l D dI ad _ m4 v1 hm4 h sz) (⟨va_cnB 1 X.1.2.2.2.2 (gwB w_185) rfl rfl rfl (X.2.2.2.2.2 _ nw_16) (X.1.2.2.2.2 _ (List.mem_cons_of_mem _ w_2)) (by decide +kernel) ⟨by decide, by decide⟩, X.1.2.2.2.2 _ (List.mem_cons_of_mem _ w_184), X.1.2.2.2.2 _ (List.mem_cons_of_mem _ ws_V_add)⟩) (he_E_Enc hm4) rfl rfl hl.1 rfl (Nat.le_of_ble_eq_true rfl) ⟨Nat.zero_le _, Nat.zero_le _⟩ d_W_load_147 (fun r3 s4 ho5 => ?_)
      refine gg_show_v ?_
      refine gg_iinc X 150 (k := 5) (1 : Int32) (fun v6 => [(5, .int v6), (6, .int v1), (0, .ref (ad 0)), (2, .int x2), (3, .int x3), (4, .ref (ad (5 + m4)))]) d_W_load_150 hl rfl (by decide) (by decide) (fun _ => rfl) (fun v6 ls hl => ?_)
      refine gg_goto X 153 108 d_W_load_153 rfl ?_
      exact ih x2 x3 m4 v6 s4 _ hm4 (lv_sub hl [2, 3, 4, 5, 0] rfl)
set_option maxHeartbeats 4000000 in
set_option maxRecDepth 100000 in
theorem t_W_load {p : Program} {l : Launch} {e : Env} {s0 : State} {m : MethodId} {args : Array Value} {below : List Frame} {meth : Method} {c : Code} {D : va_G} {A : Nat → Prop} {dI : Nat → ClassId} {ad : Nat → Nat} (X : CX p s0 m args meth c D vwCl (tyE dI) nwE A prog_1_method_43_code 7 (some .int) (Cond.code y_W_load prog_1_method_43_code 7 (some .int) :: WS) R_W) (a1 : Int32) (a2 : Int32) (a3 : Int32) (s : eS) (ls : Array Slot)  (hl : lv_has ls 7 [(0, .ref (ad 0)), (1, .int a1), (2, .int a2), (3, .int a3)]) : GG p l e rm_W_load s0 m args below meth c D vwCl (tyE dI) A (wE dI ad) 0 0 (QM below args s0 D vwCl (tyE dI) A (wE dI ad) rvI) (f_W_load a1 a2 a3 s) (F0 m 0 ls []) s := by
  unfold f_W_load
  refine gg_iload_n X 0 d_W_load_0 rfl (lv_at hl 1 rfl) ?_
  refine gg_callS X 1 nwOk_E [.int a1] [] (fun _ _ h sz => M_W_isEnclave l D dI ad _ a1  h sz) (cwS 1 X.1.2.2.2.2 (gwS w_194 w_195 w_1 w_196) rfl rfl rfl (by decide +kernel) ⟨by decide, by decide⟩) rfl hl.1 rfl (Nat.le_of_ble_eq_true rfl) ⟨Nat.zero_le _, Nat.zero_le _⟩ d_W_load_1 (fun r1 s2 ho3 => ?_)
  refine gg_show_i ?_
  refine gg_if_eq X 4 21 d_W_load_4 rfl (fun _ => ?_) (fun _ => ?_)
  · exact t_W_load_21 X s2 _  (lv_sub hl [] rfl)
  · refine gg_iload_n X 7 d_W_load_7 rfl (lv_at hl 2 rfl) ?_
    refine gg_callS X 8 nwOk_E [.int a2] [] (fun _ _ h sz => M_W_isRegion l D dI ad _ a2  h sz) (cwS 1 X.1.2.2.2.2 (gwS w_170 w_171 w_1 w_172) rfl rfl rfl (by decide +kernel) ⟨by decide, by decide⟩) rfl hl.1 rfl (Nat.le_of_ble_eq_true rfl) ⟨Nat.zero_le _, Nat.zero_le _⟩ d_W_load_8 (fun r4 s5 ho6 => ?_)
    refine gg_show_i ?_
    refine gg_if_eq X 11 21 d_W_load_11 rfl (fun _ => ?_) (fun _ => ?_)
    · exact t_W_load_21 X s5 _  (lv_sub hl [] rfl)
    · refine gg_iload_n X 14 d_W_load_14 rfl (lv_at hl 3 rfl) ?_
      refine gg_callS X 15 nwOk_E [.int a3] [] (fun _ _ h sz => M_W_isRegion l D dI ad _ a3  h sz) (cwS 1 X.1.2.2.2.2 (gwS w_170 w_171 w_1 w_172) rfl rfl rfl (by decide +kernel) ⟨by decide, by decide⟩) rfl hl.1 rfl (Nat.le_of_ble_eq_true rfl) ⟨Nat.zero_le _, Nat.zero_le _⟩ d_W_load_15 (fun r7 s8 ho9 => ?_)
      refine gg_show_i ?_
      refine gg_if_ne X 18 24 d_W_load_18 rfl (fun _ => ?_) (fun _ => ?_)
      · refine gg_aload_n X 24 d_W_load_24 rfl (lv_at hl 0 rfl) ?_
        refine gg_get_W_enclaves X 25 (Or.inl (List.mem_cons_of_mem _ w_83)) d_W_load_25 ?_
        refine gg_iload_n X 28 d_W_load_28 rfl (lv_at hl 1 rfl) ?_
        refine gg_ald_ENA X 29 d_W_load_29 (fun hi10 => ?_)
        refine gg_astore X 30 3 (fun t11 => [(4, .ref (ad (5 + t11))), (0, .ref (ad 0)), (1, .int a1), (2, .int a2), (3, .int a3)]) d_W_load_30 hl (by decide) (fun _ => rfl) (ixb hi10) (fun t11 ls ht12 hl => ?_)
        refine gg_aload X 32 d_W_load_32 (lv_at hl 0 rfl) ?_
        refine gg_get_V_state X 34 ht12 (Or.inr ⟨_, nw_9⟩) d_W_load_34 ?_
        refine gg_iconst X 37 (1 : Int32) d_W_load_37 (by decide) ?_
        refine gg_icmp_eq X 38 44 d_W_load_38 rfl (fun _ => ?_) (fun _ => ?_)
        · refine gg_aload_n X 44 d_W_load_44 rfl (lv_at hl 1 rfl) ?_
          refine gg_get_W_kinds X 45 (Or.inl (List.mem_cons_of_mem _ w_82)) d_W_load_45 ?_
          refine gg_iload_n X 48 d_W_load_48 rfl (lv_at hl 3 rfl) ?_
          refine gg_ald_KIN X 49 d_W_load_49 ?_
          refine gg_iconst X 50 (2 : Int32) d_W_load_50 (by decide) ?_
          refine gg_iload_n X 51 d_W_load_51 rfl (lv_at hl 2 rfl) ?_
          refine gg_iadd X 52 d_W_load_52 ?_
          refine gg_icmp_ne X 53 66 d_W_load_53 rfl (fun _ => ?_) (fun _ => ?_)
          · exact t_W_load_66 X s8 _  (lv_sub hl [] rfl)
          · refine gg_aload_n X 56 d_W_load_56 rfl (lv_at hl 1 rfl) ?_
            refine gg_get_W_kinds X 57 (Or.inl (List.mem_cons_of_mem _ w_82)) d_W_load_57 ?_
            refine gg_iload_n X 60 d_W_load_60 rfl (lv_at hl 4 rfl) ?_
            refine gg_ald_KIN X 61 d_W_load_61 ?_
            refine gg_iconst X 62 (1 : Int32) d_W_load_62 (by decide) ?_
            refine gg_icmp_eq X 63 69 d_W_load_63 rfl (fun _ => ?_) (fun _ => ?_)
            · refine gg_aload X 69 d_W_load_69 (lv_at hl 0 rfl) ?_
              refine gg_get_V_loads X 71 ht12 (Or.inr ⟨_, nw_11⟩) d_W_load_71 ?_
              refine gg_bipush X 74 (8 : Int32) d_W_load_74 (by decide) ?_
              refine gg_icmp_lt X 76 82 d_W_load_76 rfl (fun _ => ?_) (fun _ => ?_)
              · refine gg_aload X 82 d_W_load_82 (lv_at hl 0 rfl) ?_
                refine gg_dup X 84 d_W_load_84 rfl ?_
                refine gg_get_V_loads X 85 ht12 (Or.inr ⟨_, nw_11⟩) d_W_load_85 ?_
                refine gg_iconst X 88 (1 : Int32) d_W_load_88 (by decide) ?_
                refine gg_iadd X 89 d_W_load_89 ?_
                refine gg_put_V_loads X 90 ht12 (Or.inr ⟨_, nw_11⟩) d_W_load_90 (fun s13 => ?_)
                refine gg_aload X 93 d_W_load_93 (lv_at hl 0 rfl) ?_
                refine gg_iconst X 95 (2 : Int32) d_W_load_95 (by decide) ?_
                refine gg_callVN X 96 nwOk_E [.int (2 : Int32)] [] (fun _ _ h sz => M_V_add l D dI ad _ t11 (2 : Int32) ht12 h sz) (⟨va_cnB 1 X.1.2.2.2.2 (gwB w_185) rfl rfl rfl (X.2.2.2.2.2 _ nw_16) (X.1.2.2.2.2 _ (List.mem_cons_of_mem _ w_2)) (by decide +kernel) ⟨by decide, by decide⟩, X.1.2.2.2.2 _ (List.mem_cons_of_mem _ w_184), X.1.2.2.2.2 _ (List.mem_cons_of_mem _ ws_V_add)⟩) (he_E_Enc ht12) rfl rfl hl.1 rfl (Nat.le_of_ble_eq_true rfl) ⟨Nat.zero_le _, Nat.zero_le _⟩ d_W_load_96 (fun r14 s15 ho16 => ?_)
                refine gg_show_v ?_
                refine gg_aload X 99 d_W_load_99 (lv_at hl 0 rfl) ?_
                refine gg_iload_n X 101 d_W_load_101 rfl (lv_at hl 3 rfl) ?_
                refine gg_callVN X 102 nwOk_E [.int a2] [] (fun _ _ h sz => M_V_add l D dI ad _ t11 a2 ht12 h sz) (⟨va_cnB 1 X.1.2.2.2.2 (gwB w_185) rfl rfl rfl (X.2.2.2.2.2 _ nw_16) (X.1.2.2.2.2 _ (List.mem_cons_of_mem _ w_2)) (by decide +kernel) ⟨by decide, by decide⟩, X.1.2.2.2.2 _ (List.mem_cons_of_mem _ w_184), X.1.2.2.2.2 _ (List.mem_cons_of_mem _ ws_V_add)⟩) (he_E_Enc ht12) rfl rfl hl.1 rfl (Nat.le_of_ble_eq_true rfl) ⟨Nat.zero_le _, Nat.zero_le _⟩ d_W_load_102 (fun r17 s18 ho19 => ?_)
                refine gg_show_v ?_
                refine gg_iconst X 105 (0 : Int32) d_W_load_105 (by decide) ?_
                refine gg_istore X 106 (fun v20 => [(5, .int v20), (4, .ref (ad (5 + t11))), (0, .ref (ad 0)), (1, .int a1), (2, .int a2), (3, .int a3)]) d_W_load_106 hl (by decide) (fun _ => rfl) (fun v20 ls hl => ?_)
                exact t_W_load_108 X fu a2 a3 t11 v20 s18 _ ht12 (lv_sub hl [2, 4, 5, 1, 0] rfl)
              · refine gg_bipush X 79 (-5 : Int32) d_W_load_79 (by decide) ?_
                exact gg_iret X 81 d_W_load_81
            · exact t_W_load_66 X s8 _  (lv_sub hl [] rfl)
        · refine gg_bipush X 41 (-3 : Int32) d_W_load_41 (by decide) ?_
          exact gg_iret X 43 d_W_load_43
      · exact t_W_load_21 X s8 _  (lv_sub hl [] rfl)
theorem M_W_load (l : Launch) (D : va_G) (dI : Nat → ClassId) (ad : Nat → Nat) (s : eS) (a1 : Int32) (a2 : Int32) (a3 : Int32)  {r : Int32} {s' : eS} (h : f_W_load a1 a2 a3 s = some (r, s')) (sz : Nat) : Met l y_W_load (Cond.code y_W_load prog_1_method_43_code 7 (some .int) :: WS) rm_W_load (Px (wE dI ad) D vwCl (tyE dI) nwE sz s [.ref (ad 0), .int a1, .int a2, .int a3]) (Qx rvI (wE dI ad) D vwCl (tyE dI) (va_A ((wE dI ad) s) sz) r s') 0 0 (va_A ((wE dI ad) s) sz) :=
  met_of [.ref (ad 0), .int a1, .int a2, .int a3] (by decide) rfl rfl (Nat.le_of_ble_eq_true rfl) h (fun p e s0 m args below meth c A ls X hl => t_W_load X a1 a2 a3 s ls  hl)
