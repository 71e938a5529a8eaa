set_option maxHeartbeats 4000000 in
set_option maxRecDepth 100000 in
theorem t_M_period {p : Program} {l : Launch} {e : Env} {s0 : State} {m : MethodId} {args : Array Value} {below : List Frame} {meth : Method} {c : Code} {D : va_G} {A : Nat → Prop} {dI : Nat → ClassId} {ad : Nat → Nat} (X : CX p s0 m args meth c D vwCl (tyM dI) [] A prog_6_method_36_code 2 none (Cond.code y_M_period prog_6_method_36_code 2 none :: WS) R_M) (a1 : Int32) (s : eS) (ls : Array Slot)  (hl : lv_has ls 2 [(0, .ref (ad 0)), (1, .int a1)]) : GG p l e rm_M_period s0 m args below meth c D vwCl (tyM dI) A (wM dI ad) 0 0 (QM below args s0 D vwCl (tyM dI) A (wM dI ad) rvV) (f_M_period a1 s) (F0 m 0 ls []) s := by
  unfold f_M_period
  refine gg_aload_n X 0 d_M_period_0 rfl (lv_at hl 0 rfl) ?_
  refine gg_iload_n X 1 d_M_period_1 rfl (lv_at hl 1 rfl) ?_
  refine gg_put_M_rhythm X 2 (Or.inl (List.mem_cons_of_mem _ w_374)) d_M_period_2 (fun s1 => ?_)
  exact gg_vret X 5 d_M_period_5
theorem M_M_period (l : Launch) (D : va_G) (dI : Nat → ClassId) (ad : Nat → Nat) (s : eS) (a1 : Int32)  {r : Unit} {s' : eS} (h : f_M_period a1 s = some (r, s')) (sz : Nat) : Met l y_M_period (Cond.code y_M_period prog_6_method_36_code 2 none :: WS) rm_M_period (Px (wM dI ad) D vwCl (tyM dI) [] sz s [.ref (ad 0), .int a1]) (Qx rvV (wM dI ad) D vwCl (tyM dI) (va_A ((wM dI ad) s) sz) r s') 0 0 (va_A ((wM dI ad) s) sz) :=
  met_of [.ref (ad 0), .int a1] (by decide) rfl rfl (Nat.le_of_ble_eq_true rfl) h (fun p e s0 m args below meth c A ls X hl => t_M_period X a1 s ls  hl)
set_option maxHeartbeats 4000000 in
set_option maxRecDepth 100000 in
theorem t_M_tick {p : Program} {l : Launch} {e : Env} {s0 : State} {m : MethodId} {args : Array Value} {below : List Frame} {meth : Method} {c : Code} {D : va_G} {A : Nat → Prop} {dI : Nat → ClassId} {ad : Nat → Nat} (X : CX p s0 m args meth c D vwCl (tyM dI) [] A prog_6_method_37_code 1 (some .int) (Cond.code y_M_tick prog_6_method_37_code 1 (some .int) :: WS) R_M)  (s : eS) (ls : Array Slot)  (hl : lv_has ls 1 [(0, .ref (ad 0))]) : GG p l e rm_M_tick s0 m args below meth c D vwCl (tyM dI) A (wM dI ad) 0 0 (QM below args s0 D vwCl (tyM dI) A (wM dI ad) rvI) (f_M_tick s) (F0 m 0 ls []) s := by
  unfold f_M_tick
  refine gg_aload_n X 0 d_M_tick_0 rfl (lv_at hl 0 rfl) ?_
  refine gg_get_M_ticks X 1 (Or.inl (List.mem_cons_of_mem _ w_375)) d_M_tick_1 ?_
  exact gg_iret X 4 d_M_tick_4
theorem M_M_tick (l : Launch) (D : va_G) (dI : Nat → ClassId) (ad : Nat → Nat) (s : eS)   {r : Int32} {s' : eS} (h : f_M_tick s = some (r, s')) (sz : Nat) : Met l y_M_tick (Cond.code y_M_tick prog_6_method_37_code 1 (some .int) :: WS) rm_M_tick (Px (wM dI ad) D vwCl (tyM dI) [] sz s [.ref (ad 0)]) (Qx rvI (wM dI ad) D vwCl (tyM dI) (va_A ((wM dI ad) s) sz) r s') 0 0 (va_A ((wM dI ad) s) sz) :=
  met_of [.ref (ad 0)] (by decide) rfl rfl (Nat.le_of_ble_eq_true rfl) h (fun p e s0 m args below meth c A ls X hl => t_M_tick X s ls  hl)
set_option maxHeartbeats 4000000 in
set_option maxRecDepth 100000 in
theorem t_M_running {p : Program} {l : Launch} {e : Env} {s0 : State} {m : MethodId} {args : Array Value} {below : List Frame} {meth : Method} {c : Code} {D : va_G} {A : Nat → Prop} {dI : Nat → ClassId} {ad : Nat → Nat} (X : CX p s0 m args meth c D vwCl (tyM dI) [] A prog_6_method_38_code 1 (some .int) (Cond.code y_M_running prog_6_method_38_code 1 (some .int) :: WS) R_M)  (s : eS) (ls : Array Slot)  (hl : lv_has ls 1 [(0, .ref (ad 0))]) : GG p l e rm_M_running s0 m args below meth c D vwCl (tyM dI) A (wM dI ad) 0 0 (QM below args s0 D vwCl (tyM dI) A (wM dI ad) rvI) (f_M_running s) (F0 m 0 ls []) s := by
  unfold f_M_running
  refine gg_aload_n X 0 d_M_running_0 rfl (lv_at hl 0 rfl) ?_
  refine gg_get_M_who X 1 (Or.inl (List.mem_cons_of_mem _ w_372)) d_M_running_1 ?_
  refine gg_bipush X 4 (6 : Int32) d_M_running_4 (by decide) ?_
  refine gg_icmp_ne X 6 13 d_M_running_6 rfl (fun _ => ?_) (fun _ => ?_)
  · refine gg_aload_n X 13 d_M_running_13 rfl (lv_at hl 0 rfl) ?_
    refine gg_get_M_who X 14 (Or.inl (List.mem_cons_of_mem _ w_372)) d_M_running_14 ?_
    exact gg_iret X 17 d_M_running_17
  · refine gg_iconst X 9 (-1 : Int32) d_M_running_9 (by decide) ?_
    refine gg_goto X 10 17 d_M_running_10 rfl ?_
    exact gg_iret X 17 d_M_running_17
theorem M_M_running (l : Launch) (D : va_G) (dI : Nat → ClassId) (ad : Nat → Nat) (s : eS)   {r : Int32} {s' : eS} (h : f_M_running s = some (r, s')) (sz : Nat) : Met l y_M_running (Cond.code y_M_running prog_6_method_38_code 1 (some .int) :: WS) rm_M_running (Px (wM dI ad) D vwCl (tyM dI) [] sz s [.ref (ad 0)]) (Qx rvI (wM dI ad) D vwCl (tyM dI) (va_A ((wM dI ad) s) sz) r s') 0 0 (va_A ((wM dI ad) s) sz) :=
  met_of [.ref (ad 0)] (by decide) rfl rfl (Nat.le_of_ble_eq_true rfl) h (fun p e s0 m args below meth c A ls X hl => t_M_running X s ls  hl)
set_option maxHeartbeats 4000000 in
set_option maxRecDepth 100000 in
theorem t_M_region {p : Program} {l : Launch} {e : Env} {s0 : State} {m : MethodId} {args : Array Value} {below : List Frame} {meth : Method} {c : Code} {D : va_G} {A : Nat → Prop} {dI : Nat → ClassId} {ad : Nat → Nat} (X : CX p s0 m args meth c D vwCl (tyM dI) [] A prog_6_method_39_code 2 (some .int) (Cond.code y_M_region prog_6_method_39_code 2 (some .int) :: WS) R_M) (a1 : Int32) (s : eS) (ls : Array Slot)  (hl : lv_has ls 2 [(0, .ref (ad 0)), (1, .int a1)]) : GG p l e rm_M_region s0 m args below meth c D vwCl (tyM dI) A (wM dI ad) 0 0 (QM below args s0 D vwCl (tyM dI) A (wM dI ad) rvI) (f_M_region a1 s) (F0 m 0 ls []) s := by
  unfold f_M_region
  refine gg_iload_n X 0 d_M_region_0 rfl (lv_at hl 1 rfl) ?_
  refine gg_bipush X 1 (15 : Int32) d_M_region_1 (by decide) ?_
  refine gg_callS X 3 nwOk_M [.int a1, .int (15 : Int32)] [] (fun _ _ h sz => M_M_outside l D dI ad _ a1 (15 : Int32)  h sz) (cwS 2 X.1.2.2.2.2 (gwS w_437 w_438 w_5 w_439) rfl rfl rfl (by decide +kernel) ⟨by decide, by decide⟩) rfl hl.1 rfl (Nat.le_of_ble_eq_true rfl) ⟨Nat.zero_le _, Nat.zero_le _⟩ d_M_region_3 (fun r1 s2 ho3 => ?_)
  refine gg_show_i ?_
  refine gg_if_eq X 6 13 d_M_region_6 rfl (fun _ => ?_) (fun _ => ?_)
  · refine gg_aload_n X 13 d_M_region_13 rfl (lv_at hl 0 rfl) ?_
    refine gg_iload_n X 14 d_M_region_14 rfl (lv_at hl 1 rfl) ?_
    refine gg_callV X 15 nwOk_M [.int a1] [] (fun _ _ h sz => M_M_kind l D dI ad _ a1  h sz) (cwV 1 X.1.2.2.2.2 (gwV w_440 w_442 ws_M_kind w_5 w_443) rfl rfl rfl (by decide +kernel) ⟨by decide, by decide⟩) (he_M_Main) rfl rfl hl.1 rfl (Nat.le_of_ble_eq_true rfl) ⟨Nat.zero_le _, Nat.zero_le _⟩ d_M_region_15 (fun r4 s5 ho6 => ?_)
    refine gg_show_i ?_
    exact gg_iret X 18 d_M_region_18
  · refine gg_iconst X 9 (-1 : Int32) d_M_region_9 (by decide) ?_
    refine gg_goto X 10 18 d_M_region_10 rfl ?_
    exact gg_iret X 18 d_M_region_18
theorem M_M_region (l : Launch) (D : va_G) (dI : Nat → ClassId) (ad : Nat → Nat) (s : eS) (a1 : Int32)  {r : Int32} {s' : eS} (h : f_M_region a1 s = some (r, s')) (sz : Nat) : Met l y_M_region (Cond.code y_M_region prog_6_method_39_code 2 (some .int) :: WS) rm_M_region (Px (wM dI ad) D vwCl (tyM dI) [] sz s [.ref (ad 0), .int a1]) (Qx rvI (wM dI ad) D vwCl (tyM dI) (va_A ((wM dI ad) s) sz) r s') 0 0 (va_A ((wM dI ad) s) sz) :=
  met_of [.ref (ad 0), .int a1] (by decide) rfl rfl (Nat.le_of_ble_eq_true rfl) h (fun p e s0 m args below meth c A ls X hl => t_M_region X a1 s ls  hl)
set_option maxHeartbeats 4000000 in
set_option maxRecDepth 100000 in
theorem t_M_enclave {p : Program} {l : Launch} {e : Env} {s0 : State} {m : MethodId} {args : Array Value} {below : List Frame} {meth : Method} {c : Code} {D : va_G} {A : Nat → Prop} {dI : Nat → ClassId} {ad : Nat → Nat} (X : CX p s0 m args meth c D vwCl (tyM dI) [] A prog_6_method_40_code 2 (some .int) (Cond.code y_M_enclave prog_6_method_40_code 2 (some .int) :: WS) R_M) (a1 : Int32) (s : eS) (ls : Array Slot)  (hl : lv_has ls 2 [(0, .ref (ad 0)), (1, .int a1)]) : GG p l e rm_M_enclave s0 m args below meth c D vwCl (tyM dI) A (wM dI ad) 0 0 (QM below args s0 D vwCl (tyM dI) A (wM dI ad) rvI) (f_M_enclave a1 s) (F0 m 0 ls []) s := by
  unfold f_M_enclave
  refine gg_iload_n X 0 d_M_enclave_0 rfl (lv_at hl 1 rfl) ?_
  refine gg_iconst X 1 (2 : Int32) d_M_enclave_1 (by decide) ?_
  refine gg_callS X 2 nwOk_M [.int a1, .int (2 : Int32)] [] (fun _ _ h sz => M_M_outside l D dI ad _ a1 (2 : Int32)  h sz) (cwS 2 X.1.2.2.2.2 (gwS w_437 w_438 w_5 w_439) rfl rfl rfl (by decide +kernel) ⟨by decide, by decide⟩) rfl hl.1 rfl (Nat.le_of_ble_eq_true rfl) ⟨Nat.zero_le _, Nat.zero_le _⟩ d_M_enclave_2 (fun r1 s2 ho3 => ?_)
  refine gg_show_i ?_
  refine gg_if_eq X 5 12 d_M_enclave_5 rfl (fun _ => ?_) (fun _ => ?_)
  · refine gg_aload_n X 12 d_M_enclave_12 rfl (lv_at hl 0 rfl) ?_
    refine gg_get_M_stateOf X 13 (Or.inl (List.mem_cons_of_mem _ w_362)) d_M_enclave_13 ?_
    refine gg_iload_n X 16 d_M_enclave_16 rfl (lv_at hl 1 rfl) ?_
    refine gg_ald_A_stateOf X 17 d_M_enclave_17 ?_
    exact gg_iret X 18 d_M_enclave_18
  · refine gg_iconst X 8 (-1 : Int32) d_M_enclave_8 (by decide) ?_
    refine gg_goto X 9 18 d_M_enclave_9 rfl ?_
    exact gg_iret X 18 d_M_enclave_18
theorem M_M_enclave (l : Launch) (D : va_G) (dI : Nat → ClassId) (ad : Nat → Nat) (s : eS) (a1 : Int32)  {r : Int32} {s' : eS} (h : f_M_enclave a1 s = some (r, s')) (sz : Nat) : Met l y_M_enclave (Cond.code y_M_enclave prog_6_method_40_code 2 (some .int) :: WS) rm_M_enclave (Px (wM dI ad) D vwCl (tyM dI) [] sz s [.ref (ad 0), .int a1]) (Qx rvI (wM dI ad) D vwCl (tyM dI) (va_A ((wM dI ad) s) sz) r s') 0 0 (va_A ((wM dI ad) s) sz) :=
  met_of [.ref (ad 0), .int a1] (by decide) rfl rfl (Nat.le_of_ble_eq_true rfl) h (fun p e s0 m args below meth c A ls X hl => t_M_enclave X a1 s ls  hl)
set_option maxHeartbeats 4000000 in
set_option maxRecDepth 100000 in
theorem t_M_kept_19 {p : Program} {l : Launch} {e : Env} {s0 : State} {m : MethodId} {args : Array Value} {below : List Frame} {meth : Method} {c : Code} {D : va_G} {A : Nat → Prop} {dI : Nat → ClassId} {ad : Nat → Nat} (X : CX p s0 m args meth c D vwCl (tyM dI) [] A prog_6_method_42_code 4 (some .int) (Cond.code y_M_kept prog_6_method_42_code 4 (some .int) :: WS) R_M)  (s : eS) (ls : Array Slot)  (hl : lv_has ls 4 []) : GG p l e rm_M_kept s0 m args below meth c D vwCl (tyM dI) A (wM dI ad) 0 0 (QM below args s0 D vwCl (tyM dI) A (wM dI ad) rvI) (f_M_kept_19 s) (F0 m 19 ls []) s := by
  unfold f_M_kept_19
  refine gg_iconst X 19 (0 : Int32) d_M_kept_19 (by decide) ?_
  exact gg_iret X 20 d_M_kept_20
set_option maxHeartbeats 4000000 in
set_option maxRecDepth 100000 in
theorem t_M_kept {p : Program} {l : Launch} {e : Env} {s0 : State} {m : MethodId} {args : Array Value} {below : List Frame} {meth : Method} {c : Code} {D : va_G} {A : Nat → Prop} {dI : Nat → ClassId} {ad : Nat → Nat} (X : CX p s0 m args meth c D vwCl (tyM dI) [] A prog_6_method_42_code 4 (some .int) (Cond.code y_M_kept prog_6_method_42_code 4 (some .int) :: WS) R_M) (a1 : Int32) (a2 : Int32) (a3 : Int32) (s : eS) (ls : Array Slot)  (hl : lv_has ls 4 [(0, .ref (ad 0)), (1, .int a1), (2, .int a2), (3, .int a3)]) : GG p l e rm_M_kept s0 m args below meth c D vwCl (tyM dI) A (wM dI ad) 0 0 (QM below args s0 D vwCl (tyM dI) A (wM dI ad) rvI) (f_M_kept a1 a2 a3 s) (F0 m 0 ls []) s := by
  unfold f_M_kept
  refine gg_aload_n X 0 d_M_kept_0 rfl (lv_at hl 0 rfl) ?_
  refine gg_iload_n X 1 d_M_kept_1 rfl (lv_at hl 1 rfl) ?_
  refine gg_iload_n X 2 d_M_kept_2 rfl (lv_at hl 2 rfl) ?_
  refine gg_callV X 3 nwOk_M [.int a1, .int a2] [] (fun _ _ h sz => M_M_thread l D dI ad _ a1 a2  h sz) (cwV 2 X.1.2.2.2.2 (gwV w_503 w_504 w_505 w_5 w_506) rfl rfl rfl (by decide +kernel) ⟨by decide, by decide⟩) (he_M_Main) rfl rfl hl.1 rfl (Nat.le_of_ble_eq_true rfl) ⟨Nat.zero_le _, Nat.zero_le _⟩ d_M_kept_3 (fun r1 s2 ho3 => ?_)
  refine gg_show_i ?_
  refine gg_iconst X 6 (2 : Int32) d_M_kept_6 (by decide) ?_
  refine gg_icmp_lt X 7 19 d_M_kept_7 rfl (fun _ => ?_) (fun _ => ?_)
  · exact t_M_kept_19 X s2 _  (lv_sub hl [] rfl)
  · refine gg_iload_n X 10 d_M_kept_10 rfl (lv_at hl 3 rfl) ?_
    refine gg_bipush X 11 (8 : Int32) d_M_kept_11 (by decide) ?_
    refine gg_callS X 13 nwOk_M [.int a3, .int (8 : Int32)] [] (fun _ _ h sz => M_M_outside l D dI ad _ a3 (8 : Int32)  h sz) (cwS 2 X.1.2.2.2.2 (gwS w_437 w_438 w_5 w_439) rfl rfl rfl (by decide +kernel) ⟨by decide, by decide⟩) rfl hl.1 rfl (Nat.le_of_ble_eq_true rfl) ⟨Nat.zero_le _, Nat.zero_le _⟩ d_M_kept_13 (fun r4 s5 ho6 => ?_)
    refine gg_show_i ?_
    refine gg_if_eq X 16 21 d_M_kept_16 rfl (fun _ => ?_) (fun _ => ?_)
    · refine gg_iload_n X 21 d_M_kept_21 rfl (lv_at hl 3 rfl) ?_
      refine gg_bipush X 22 (8 : Int32) d_M_kept_22 (by decide) ?_
      refine gg_icmp_ne X 24 40 d_M_kept_24 rfl (fun _ => ?_) (fun _ => ?_)
      · refine gg_aload_n X 40 d_M_kept_40 rfl (lv_at hl 0 rfl) ?_
        refine gg_get_M_reg X 41 (Or.inl (List.mem_cons_of_mem _ w_370)) d_M_kept_41 ?_
        refine gg_bipush X 44 (16 : Int32) d_M_kept_44 (by decide) ?_
        refine gg_iload_n X 46 d_M_kept_46 rfl (lv_at hl 1 rfl) ?_
        refine gg_imul X 47 d_M_kept_47 ?_
        refine gg_bipush X 48 (8 : Int32) d_M_kept_48 (by decide) ?_
        refine gg_iload_n X 50 d_M_kept_50 rfl (lv_at hl 2 rfl) ?_
        refine gg_imul X 51 d_M_kept_51 ?_
        refine gg_iadd X 52 d_M_kept_52 ?_
        refine gg_iload_n X 53 d_M_kept_53 rfl (lv_at hl 3 rfl) ?_
        refine gg_iadd X 54 d_M_kept_54 ?_
        refine gg_ald_A_reg X 55 d_M_kept_55 ?_
        exact gg_iret X 56 d_M_kept_56
      · refine gg_aload_n X 27 d_M_kept_27 rfl (lv_at hl 0 rfl) ?_
        refine gg_get_M_place X 28 (Or.inl (List.mem_cons_of_mem _ w_371)) d_M_kept_28 ?_
        refine gg_iconst X 31 (2 : Int32) d_M_kept_31 (by decide) ?_
        refine gg_iload_n X 32 d_M_kept_32 rfl (lv_at hl 1 rfl) ?_
        refine gg_imul X 33 d_M_kept_33 ?_
        refine gg_iload_n X 34 d_M_kept_34 rfl (lv_at hl 2 rfl) ?_
        refine gg_iadd X 35 d_M_kept_35 ?_
        refine gg_ald_A_place X 36 d_M_kept_36 ?_
        refine gg_goto X 37 56 d_M_kept_37 rfl ?_
        exact gg_iret X 56 d_M_kept_56
    · exact t_M_kept_19 X s5 _  (lv_sub hl [] rfl)
theorem M_M_kept (l : Launch) (D : va_G) (dI : Nat → ClassId) (ad : Nat → Nat) (s : eS) (a1 : Int32) (a2 : Int32) (a3 : Int32)  {r : Int32} {s' : eS} (h : f_M_kept a1 a2 a3 s = some (r, s')) (sz : Nat) : Met l y_M_kept (Cond.code y_M_kept prog_6_method_42_code 4 (some .int) :: WS) rm_M_kept (Px (wM dI ad) D vwCl (tyM dI) [] sz s [.ref (ad 0), .int a1, .int a2, .int a3]) (Qx rvI (wM dI ad) D vwCl (tyM dI) (va_A ((wM dI ad) s) sz) r s') 0 0 (va_A ((wM dI ad) s) sz) :=
  met_of [.ref (ad 0), .int a1, .int a2, .int a3] (by decide) rfl rfl (Nat.le_of_ble_eq_true rfl) h (fun p e s0 m args below meth c A ls X hl => t_M_kept X a1 a2 a3 s ls  hl)
set_option maxHeartbeats 4000000 in
set_option maxRecDepth 100000 in
theorem t_M_measure_17 {p : Program} {l : Launch} {e : Env} {s0 : State} {m : MethodId} {args : Array Value} {below : List Frame} {meth : Method} {c : Code} {D : va_G} {A : Nat → Prop} {dI : Nat → ClassId} {ad : Nat → Nat} (X : CX p s0 m args meth c D vwCl (tyM dI) [] A prog_6_method_43_code 2 (some .int) (Cond.code y_M_measure prog_6_method_43_code 2 (some .int) :: WS) R_M)  (s : eS) (ls : Array Slot)  (hl : lv_has ls 2 []) : GG p l e rm_M_measure s0 m args below meth c D vwCl (tyM dI) A (wM dI ad) 0 0 (QM below args s0 D vwCl (tyM dI) A (wM dI ad) rvI) (f_M_measure_17 s) (F0 m 17 ls []) s := by
  unfold f_M_measure_17
  refine gg_iconst X 17 (0 : Int32) d_M_measure_17 (by decide) ?_
  refine gg_goto X 18 26 d_M_measure_18 rfl ?_
  exact gg_iret X 26 d_M_measure_26
set_option maxHeartbeats 4000000 in
set_option maxRecDepth 100000 in
theorem t_M_measure {p : Program} {l : Launch} {e : Env} {s0 : State} {m : MethodId} {args : Array Value} {below : List Frame} {meth : Method} {c : Code} {D : va_G} {A : Nat → Prop} {dI : Nat → ClassId} {ad : Nat → Nat} (X : CX p s0 m args meth c D vwCl (tyM dI) [] A prog_6_method_43_code 2 (some .int) (Cond.code y_M_measure prog_6_method_43_code 2 (some .int) :: WS) R_M) (a1 : Int32) (s : eS) (ls : Array Slot)  (hl : lv_has ls 2 [(0, .ref (ad 0)), (1, .int a1)]) : GG p l e rm_M_measure s0 m args below meth c D vwCl (tyM dI) A (wM dI ad) 0 0 (QM below args s0 D vwCl (tyM dI) A (wM dI ad) rvI) (f_M_measure a1 s) (F0 m 0 ls []) s := by
  unfold f_M_measure
  refine gg_iload_n X 0 d_M_measure_0 rfl (lv_at hl 1 rfl) ?_
  refine gg_iconst X 1 (2 : Int32) d_M_measure_1 (by decide) ?_
  refine gg_callS X 2 nwOk_M [.int a1, .int (2 : Int32)] [] (fun _ _ h sz => M_M_outside l D dI ad _ a1 (2 : Int32)  h sz) (cwS 2 X.1.2.2.2.2 (gwS w_437 w_438 w_5 w_439) rfl rfl rfl (by decide +kernel) ⟨by decide, by decide⟩) rfl hl.1 rfl (Nat.le_of_ble_eq_true rfl) ⟨Nat.zero_le _, Nat.zero_le _⟩ d_M_measure_2 (fun r1 s2 ho3 => ?_)
  refine gg_show_i ?_
  refine gg_if_ne X 5 17 d_M_measure_5 rfl (fun _ => ?_) (fun _ => ?_)
  · exact t_M_measure_17 X s2 _  (lv_sub hl [] rfl)
  · refine gg_aload_n X 8 d_M_measure_8 rfl (lv_at hl 0 rfl) ?_
    refine gg_get_M_stateOf X 9 (Or.inl (List.mem_cons_of_mem _ w_362)) d_M_measure_9 ?_
    refine gg_iload_n X 12 d_M_measure_12 rfl (lv_at hl 1 rfl) ?_
    refine gg_ald_A_stateOf X 13 d_M_measure_13 ?_
    refine gg_if_ne X 14 21 d_M_measure_14 rfl (fun _ => ?_) (fun _ => ?_)
    · refine gg_aload_n X 21 d_M_measure_21 rfl (lv_at hl 0 rfl) ?_
      refine gg_iload_n X 22 d_M_measure_22 rfl (lv_at hl 1 rfl) ?_
      refine gg_callV X 23 nwOk_M [.int a1] [] (fun _ _ h sz => M_M_measured l D dI ad _ a1  h sz) (cwV 1 X.1.2.2.2.2 (gwV w_555 w_557 ws_M_measured w_5 w_558) rfl rfl rfl (by decide +kernel) ⟨by decide, by decide⟩) (he_M_Main) rfl rfl hl.1 rfl (Nat.le_of_ble_eq_true rfl) ⟨Nat.zero_le _, Nat.zero_le _⟩ d_M_measure_23 (fun r4 s5 ho6 => ?_)
      refine gg_show_i ?_
      exact gg_iret X 26 d_M_measure_26
    · exact t_M_measure_17 X s2 _  (lv_sub hl [] rfl)
theorem M_M_measure (l : Launch) (D : va_G) (dI : Nat → ClassId) (ad : Nat → Nat) (s : eS) (a1 : Int32)  {r : Int32} {s' : eS} (h : f_M_measure a1 s = some (r, s')) (sz : Nat) : Met l y_M_measure (Cond.code y_M_measure prog_6_method_43_code 2 (some .int) :: WS) rm_M_measure (Px (wM dI ad) D vwCl (tyM dI) [] sz s [.ref (ad 0), .int a1]) (Qx rvI (wM dI ad) D vwCl (tyM dI) (va_A ((wM dI ad) s) sz) r s') 0 0 (va_A ((wM dI ad) s) sz) :=
  met_of [.ref (ad 0), .int a1] (by decide) rfl rfl (Nat.le_of_ble_eq_true rfl) h (fun p e s0 m args below meth c A ls X hl => t_M_measure X a1 s ls  hl)
set_option maxHeartbeats 4000000 in
set_option maxRecDepth 100000 in
theorem t_M_vouch {p : Program} {l : Launch} {e : Env} {s0 : State} {m : MethodId} {args : Array Value} {below : List Frame} {meth : Method} {c : Code} {D : va_G} {A : Nat → Prop} {dI : Nat → ClassId} {ad : Nat → Nat} (X : CX p s0 m args meth c D vwCl (tyM dI) [] A prog_6_method_44_code 4 (some .boolean) (Cond.code y_M_vouch prog_6_method_44_code 4 (some .boolean) :: WS) R_M) (a1 : Int32) (a2 : Int32) (a3 : Int32) (s : eS) (ls : Array Slot)  (hl : lv_has ls 4 [(0, .ref (ad 0)), (1, .int a1), (2, .int a2), (3, .int a3)]) : GG p l e rm_M_vouch s0 m args below meth c D vwCl (tyM dI) A (wM dI ad) 0 0 (QM below args s0 D vwCl (tyM dI) A (wM dI ad) rvI) (f_M_vouch a1 a2 a3 s) (F0 m 0 ls []) s := by
  unfold f_M_vouch
  refine gg_aload_n X 0 d_M_vouch_0 rfl (lv_at hl 0 rfl) ?_
  refine gg_iload_n X 1 d_M_vouch_1 rfl (lv_at hl 1 rfl) ?_
  refine gg_iload_n X 2 d_M_vouch_2 rfl (lv_at hl 2 rfl) ?_
  refine gg_callV X 3 nwOk_M [.int a1, .int a2] [] (fun _ _ h sz => M_M_mac l D dI ad _ a1 a2  h sz) (cwV 2 X.1.2.2.2.2 (gwV w_563 w_565 ws_M_mac w_5 w_566) rfl rfl rfl (by decide +kernel) ⟨by decide, by decide⟩) (he_M_Main) rfl rfl hl.1 rfl (Nat.le_of_ble_eq_true rfl) ⟨Nat.zero_le _, Nat.zero_le _⟩ d_M_vouch_3 (fun r1 s2 ho3 => ?_)
  refine gg_show_i ?_
  refine gg_iload_n X 6 d_M_vouch_6 rfl (lv_at hl 3 rfl) ?_
  refine gg_icmp_ne X 7 14 d_M_vouch_7 rfl (fun _ => ?_) (fun _ => ?_)
  · refine gg_iconst X 14 (0 : Int32) d_M_vouch_14 (by decide) ?_
    exact gg_zretk X 15 rfl d_M_vouch_15
  · refine gg_iconst X 10 (1 : Int32) d_M_vouch_10 (by decide) ?_
    refine gg_goto X 11 15 d_M_vouch_11 rfl ?_
    exact gg_zretk X 15 rfl d_M_vouch_15
theorem M_M_vouch (l : Launch) (D : va_G) (dI : Nat → ClassId) (ad : Nat → Nat) (s : eS) (a1 : Int32) (a2 : Int32) (a3 : Int32)  {r : Int32} {s' : eS} (h : f_M_vouch a1 a2 a3 s = some (r, s')) (sz : Nat) : Met l y_M_vouch (Cond.code y_M_vouch prog_6_method_44_code 4 (some .boolean) :: WS) rm_M_vouch (Px (wM dI ad) D vwCl (tyM dI) [] sz s [.ref (ad 0), .int a1, .int a2, .int a3]) (Qx rvI (wM dI ad) D vwCl (tyM dI) (va_A ((wM dI ad) s) sz) r s') 0 0 (va_A ((wM dI ad) s) sz) :=
  met_of [.ref (ad 0), .int a1, .int a2, .int a3] (by decide) rfl rfl (Nat.le_of_ble_eq_true rfl) h (fun p e s0 m args below meth c A ls X hl => t_M_vouch X a1 a2 a3 s ls  hl)
set_option maxHeartbeats 4000000 in
set_option maxRecDepth 100000 in
theorem t_M_exit {p : Program} {l : Launch} {e : Env} {s0 : State} {m : MethodId} {args : Array Value} {below : List Frame} {meth : Method} {c : Code} {D : va_G} {A : Nat → Prop} {dI : Nat → ClassId} {ad : Nat → Nat} (X : CX p s0 m args meth c D vwCl (tyM dI) [] A prog_6_method_45_code 2 (some .int) (Cond.code y_M_exit prog_6_method_45_code 2 (some .int) :: WS) R_M) (a1 : Int32) (s : eS) (ls : Array Slot)  (hl : lv_has ls 2 [(0, .ref (ad 0)), (1, .int a1)]) : GG p l e rm_M_exit s0 m args below meth c D vwCl (tyM dI) A (wM dI ad) 0 0 (QM below args s0 D vwCl (tyM dI) A (wM dI ad) rvI) (f_M_exit a1 s) (F0 m 0 ls []) s := by
  unfold f_M_exit
  refine gg_iload_n X 0 d_M_exit_0 rfl (lv_at hl 1 rfl) ?_
  refine gg_if_ne X 1 11 d_M_exit_1 rfl (fun _ => ?_) (fun _ => ?_)
  · refine gg_iload_n X 11 d_M_exit_11 rfl (lv_at hl 1 rfl) ?_
    refine gg_iconst X 12 (1 : Int32) d_M_exit_12 (by decide) ?_
    refine gg_icmp_ne X 13 23 d_M_exit_13 rfl (fun _ => ?_) (fun _ => ?_)
    · refine gg_iload_n X 23 d_M_exit_23 rfl (lv_at hl 1 rfl) ?_
      refine gg_iconst X 24 (2 : Int32) d_M_exit_24 (by decide) ?_
      refine gg_icmp_ne X 25 35 d_M_exit_25 rfl (fun _ => ?_) (fun _ => ?_)
      · refine gg_iload_n X 35 d_M_exit_35 rfl (lv_at hl 1 rfl) ?_
        refine gg_iconst X 36 (3 : Int32) d_M_exit_36 (by decide) ?_
        refine gg_icmp_ne X 37 47 d_M_exit_37 rfl (fun _ => ?_) (fun _ => ?_)
        · refine gg_iload_n X 47 d_M_exit_47 rfl (lv_at hl 1 rfl) ?_
          refine gg_iconst X 48 (4 : Int32) d_M_exit_48 (by decide) ?_
          refine gg_icmp_ne X 49 59 d_M_exit_49 rfl (fun _ => ?_) (fun _ => ?_)
          · refine gg_iconst X 59 (0 : Int32) d_M_exit_59 (by decide) ?_
            exact gg_iret X 60 d_M_exit_60
          · refine gg_aload_n X 52 d_M_exit_52 rfl (lv_at hl 0 rfl) ?_
            refine gg_get_M_exitTick X 53 (Or.inl (List.mem_cons_of_mem _ w_380)) d_M_exit_53 ?_
            refine gg_goto X 56 60 d_M_exit_56 rfl ?_
            exact gg_iret X 60 d_M_exit_60
        · refine gg_aload_n X 40 d_M_exit_40 rfl (lv_at hl 0 rfl) ?_
          refine gg_get_M_exitValue X 41 (Or.inl (List.mem_cons_of_mem _ w_379)) d_M_exit_41 ?_
          refine gg_goto X 44 60 d_M_exit_44 rfl ?_
          exact gg_iret X 60 d_M_exit_60
      · refine gg_aload_n X 28 d_M_exit_28 rfl (lv_at hl 0 rfl) ?_
        refine gg_get_M_exitKind X 29 (Or.inl (List.mem_cons_of_mem _ w_378)) d_M_exit_29 ?_
        refine gg_goto X 32 60 d_M_exit_32 rfl ?_
        exact gg_iret X 60 d_M_exit_60
    · refine gg_aload_n X 16 d_M_exit_16 rfl (lv_at hl 0 rfl) ?_
      refine gg_get_M_exitEnclave X 17 (Or.inl (List.mem_cons_of_mem _ w_377)) d_M_exit_17 ?_
      refine gg_goto X 20 60 d_M_exit_20 rfl ?_
      exact gg_iret X 60 d_M_exit_60
  · refine gg_aload_n X 4 d_M_exit_4 rfl (lv_at hl 0 rfl) ?_
    refine gg_get_M_exits X 5 (Or.inl (List.mem_cons_of_mem _ w_376)) d_M_exit_5 ?_
    refine gg_goto X 8 60 d_M_exit_8 rfl ?_
    exact gg_iret X 60 d_M_exit_60
theorem M_M_exit (l : Launch) (D : va_G) (dI : Nat → ClassId) (ad : Nat → Nat) (s : eS) (a1 : Int32)  {r : Int32} {s' : eS} (h : f_M_exit a1 s = some (r, s')) (sz : Nat) : Met l y_M_exit (Cond.code y_M_exit prog_6_method_45_code 2 (some .int) :: WS) rm_M_exit (Px (wM dI ad) D vwCl (tyM dI) [] sz s [.ref (ad 0), .int a1]) (Qx rvI (wM dI ad) D vwCl (tyM dI) (va_A ((wM dI ad) s) sz) r s') 0 0 (va_A ((wM dI ad) s) sz) :=
  met_of [.ref (ad 0), .int a1] (by decide) rfl rfl (Nat.le_of_ble_eq_true rfl) h (fun p e s0 m args below meth c A ls X hl => t_M_exit X a1 s ls  hl)
