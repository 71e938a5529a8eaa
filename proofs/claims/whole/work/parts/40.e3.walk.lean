set_option maxHeartbeats 4000000 in
set_option maxRecDepth 100000 in
theorem t_W_step_67 {p : Program} {l : Launch} {e : Env} {s0 : State} {m : MethodId} {args : Array Value} {below : List Frame} {meth : Method} {c : Code} {D : va_G} {A : Nat → Prop} {dI : Nat → ClassId} {ad : Nat → Nat} (X : CX p s0 m args meth c D vwCl (tyE dI) nwE A prog_1_method_32_code 3 none (Cond.code y_W_step prog_1_method_32_code 3 none :: WS) R_W) (k0 : Nat) (s : eS) (ls : Array Slot) (hk0 : k0 < 7) (hl : lv_has ls 3 [(0, .ref (ad 0))]) : GG p l e rm_W_step s0 m args below meth c D vwCl (tyE dI) A (wE dI ad) 0 0 (QM below args s0 D vwCl (tyE dI) A (wE dI ad) rvV) (f_W_step_67 k0 s) (F0 m 67 ls [.ref (ad (17 + k0))]) s := by
  unfold f_W_step_67
  refine gg_astore_n X 67 7 (fun t1 => [(1, .ref (ad (17 + t1))), (0, .ref (ad 0))]) d_W_step_67 rfl hl (by decide) (fun _ => rfl) hk0 (fun t1 ls ht2 hl => ?_)
  refine gg_aload_n X 68 d_W_step_68 rfl (lv_at hl 1 rfl) ?_
  refine gg_aload_n X 69 d_W_step_69 rfl (lv_at hl 0 rfl) ?_
  refine gg_get_C_pc X 70 ht2 (Or.inr ⟨_, nw_3⟩) d_W_step_70 ?_
  refine gg_callV X 73 nwOk_E [.int (s 8 t1)] [] (fun _ _ h sz => M_W_runnerMayUse l D dI ad _ (s 8 t1)  h sz) (cwV 1 X.1.2.2.2.2 (gwV w_277 w_279 ws_W_runnerMayUse w_1 w_280) rfl rfl rfl (by decide +kernel) ⟨by decide, by decide⟩) (he_E_Main) rfl rfl hl.1 rfl (Nat.le_of_ble_eq_true rfl) ⟨Nat.zero_le _, Nat.zero_le _⟩ d_W_step_73 (fun r3 s4 ho5 => ?_)
  refine gg_show_i ?_
  refine gg_if_ne X 76 85 d_W_step_76 rfl (fun _ => ?_) (fun _ => ?_)
  · refine gg_aload_n X 85 d_W_step_85 rfl (lv_at hl 1 rfl) ?_
    refine gg_get_W_memory X 86 (Or.inl (List.mem_cons_of_mem _ w_81)) d_W_step_86 ?_
    refine gg_aload_n X 89 d_W_step_89 rfl (lv_at hl 0 rfl) ?_
    refine gg_get_C_pc X 90 ht2 (Or.inr ⟨_, nw_3⟩) d_W_step_90 ?_
    refine gg_ald_MEM X 93 d_W_step_93 ?_
    refine gg_istore_n X 94 (fun v6 => [(2, .int v6), (1, .ref (ad (17 + t1))), (0, .ref (ad 0))]) d_W_step_94 rfl hl (by decide) (fun _ => rfl) (fun v6 ls hl => ?_)
    refine gg_iload_n X 95 d_W_step_95 rfl (lv_at hl 0 rfl) ?_
    refine gg_bipush X 96 (15 : Int32) d_W_step_96 (by decide) ?_
    refine gg_iand X 98 d_W_step_98 ?_
    refine gg_bipush X 99 (11 : Int32) d_W_step_99 (by decide) ?_
    refine gg_icmp_ne X 101 116 d_W_step_101 rfl (fun _ => ?_) (fun _ => ?_)
    · refine gg_aload_n X 116 d_W_step_116 rfl (lv_at hl 2 rfl) ?_
      refine gg_aload_n X 117 d_W_step_117 rfl (lv_at hl 1 rfl) ?_
      refine gg_iload_n X 118 d_W_step_118 rfl (lv_at hl 0 rfl) ?_
      refine gg_callV X 119 nwOk_E [.ref (ad (17 + t1)), .int v6] [] (fun _ _ h sz => M_W_obey l D dI ad _ t1 v6 ht2 h sz) (cwV 2 X.1.2.2.2.2 (gwV w_302 w_304 ws_W_obey w_1 w_305) rfl rfl rfl (by decide +kernel) ⟨by decide, by decide⟩) (he_E_Main) rfl rfl hl.1 rfl (Nat.le_of_ble_eq_true rfl) ⟨Nat.zero_le _, Nat.zero_le _⟩ d_W_step_119 (fun r7 s8 ho9 => ?_)
      refine gg_show_v ?_
      exact gg_vret X 122 d_W_step_122
    · refine gg_aload_n X 104 d_W_step_104 rfl (lv_at hl 2 rfl) ?_
      refine gg_aload_n X 105 d_W_step_105 rfl (lv_at hl 1 rfl) ?_
      refine gg_iload_n X 106 d_W_step_106 rfl (lv_at hl 0 rfl) ?_
      refine gg_bipush X 107 (16 : Int32) d_W_step_107 (by decide) ?_
      refine gg_ishr X 109 d_W_step_109 ?_
      refine gg_callV X 110 nwOk_E [.ref (ad (17 + t1)), .int (v6 >>> ((16 : Int32) &&& 31))] [] (fun _ _ h sz => M_W_obeyCall l D dI ad _ t1 (v6 >>> ((16 : Int32) &&& 31)) ht2 h sz) (cwV 2 X.1.2.2.2.2 (gwV w_289 w_291 ws_W_obeyCall w_1 w_292) rfl rfl rfl (by decide +kernel) ⟨by decide, by decide⟩) (he_E_Main) rfl rfl hl.1 rfl (Nat.le_of_ble_eq_true rfl) ⟨Nat.zero_le _, Nat.zero_le _⟩ d_W_step_110 (fun r10 s11 ho12 => ?_)
      refine gg_show_v ?_
      refine gg_goto X 113 122 d_W_step_113 rfl ?_
      exact gg_vret X 122 d_W_step_122
  · refine gg_aload_n X 79 d_W_step_79 rfl (lv_at hl 1 rfl) ?_
    refine gg_iconst X 80 (3 : Int32) d_W_step_80 (by decide) ?_
    refine gg_callV X 81 nwOk_E [.int (3 : Int32)] [] (fun _ _ h sz => M_W_fault l D dI ad _ (3 : Int32)  h sz) (cwV 1 X.1.2.2.2.2 (gwV w_285 w_287 ws_W_fault w_1 w_288) rfl rfl rfl (by decide +kernel) ⟨by decide, by decide⟩) (he_E_Main) rfl rfl hl.1 rfl (Nat.le_of_ble_eq_true rfl) ⟨Nat.zero_le _, Nat.zero_le _⟩ d_W_step_81 (fun r13 s14 ho15 => ?_)
    refine gg_show_v ?_
    exact gg_vret X 84 d_W_step_84
set_option maxHeartbeats 4000000 in
set_option maxRecDepth 100000 in
theorem t_W_step_45 {p : Program} {l : Launch} {e : Env} {s0 : State} {m : MethodId} {args : Array Value} {below : List Frame} {meth : Method} {c : Code} {D : va_G} {A : Nat → Prop} {dI : Nat → ClassId} {ad : Nat → Nat} (X : CX p s0 m args meth c D vwCl (tyE dI) nwE A prog_1_method_32_code 3 none (Cond.code y_W_step prog_1_method_32_code 3 none :: WS) R_W)  (s : eS) (ls : Array Slot)  (hl : lv_has ls 3 [(0, .ref (ad 0))]) : GG p l e rm_W_step s0 m args below meth c D vwCl (tyE dI) A (wE dI ad) 0 0 (QM below args s0 D vwCl (tyE dI) A (wE dI ad) rvV) (f_W_step_45 s) (F0 m 45 ls []) s := by
  unfold f_W_step_45
  refine gg_aload_n X 45 d_W_step_45 rfl (lv_at hl 0 rfl) ?_
  refine gg_get_W_running X 46 (Or.inl (List.mem_cons_of_mem _ w_87)) d_W_step_46 ?_
  refine gg_iconst X 49 (-1 : Int32) d_W_step_49 (by decide) ?_
  refine gg_icmp_ne X 50 60 d_W_step_50 rfl (fun _ => ?_) (fun _ => ?_)
  · refine gg_aload_n X 60 d_W_step_60 rfl (lv_at hl 0 rfl) ?_
    refine gg_callV X 61 nwOk_E [] [] (fun _ _ h sz => M_W_runningThread l D dI ad _   h sz) (cwV 0 X.1.2.2.2.2 (gwV w_273 w_275 ws_W_runningThread w_1 w_276) rfl rfl rfl (by decide +kernel) ⟨by decide, by decide⟩) (he_E_Main) rfl rfl hl.1 rfl (Nat.le_of_ble_eq_true rfl) ⟨Nat.zero_le _, Nat.zero_le _⟩ d_W_step_61 (fun r1 s2 ho3 => ?_)
    refine gg_show_r ?_
    refine gg_get_T_core X 64 (bd_runningThread ho3) (Or.inr ⟨_, nw_4⟩) d_W_step_64 ?_
    exact t_W_step_67 X r1 s2 _ (Nat.lt_of_lt_of_le (bd_runningThread ho3) (by decide)) (lv_sub hl [0] rfl)
  · refine gg_aload_n X 53 d_W_step_53 rfl (lv_at hl 0 rfl) ?_
    refine gg_get_W_system X 54 (Or.inl (List.mem_cons_of_mem _ w_84)) d_W_step_54 ?_
    refine gg_goto X 57 67 d_W_step_57 rfl ?_
    exact t_W_step_67 X 6 s _ (by decide) (lv_sub hl [0] rfl)
set_option maxHeartbeats 4000000 in
set_option maxRecDepth 100000 in
theorem t_W_step {p : Program} {l : Launch} {e : Env} {s0 : State} {m : MethodId} {args : Array Value} {below : List Frame} {meth : Method} {c : Code} {D : va_G} {A : Nat → Prop} {dI : Nat → ClassId} {ad : Nat → Nat} (X : CX p s0 m args meth c D vwCl (tyE dI) nwE A prog_1_method_32_code 3 none (Cond.code y_W_step prog_1_method_32_code 3 none :: WS) R_W)  (s : eS) (ls : Array Slot)  (hl : lv_has ls 3 [(0, .ref (ad 0))]) : GG p l e rm_W_step s0 m args below meth c D vwCl (tyE dI) A (wE dI ad) 0 0 (QM below args s0 D vwCl (tyE dI) A (wE dI ad) rvV) (f_W_step s) (F0 m 0 ls []) s := by
  unfold f_W_step
  refine gg_aload_n X 0 d_W_step_0 rfl (lv_at hl 0 rfl) ?_
  refine gg_dup X 1 d_W_step_1 rfl ?_
  refine gg_get_W_tick X 2 (Or.inl (List.mem_cons_of_mem _ w_89)) d_W_step_2 ?_
  refine gg_iconst X 5 (1 : Int32) d_W_step_5 (by decide) ?_
  refine gg_iadd X 6 d_W_step_6 ?_
  refine gg_put_W_tick X 7 (Or.inl (List.mem_cons_of_mem _ w_89)) d_W_step_7 (fun s1 => ?_)
  refine gg_aload_n X 10 d_W_step_10 rfl (lv_at hl 0 rfl) ?_
  refine gg_get_W_running X 11 (Or.inl (List.mem_cons_of_mem _ w_87)) d_W_step_11 ?_
  refine gg_iconst X 14 (-1 : Int32) d_W_step_14 (by decide) ?_
  refine gg_icmp_eq X 15 45 d_W_step_15 rfl (fun _ => ?_) (fun _ => ?_)
  · exact t_W_step_45 X s1 _  (lv_sub hl [0] rfl)
  · refine gg_aload_n X 18 d_W_step_18 rfl (lv_at hl 0 rfl) ?_
    refine gg_get_W_period X 19 (Or.inl (List.mem_cons_of_mem _ w_88)) d_W_step_19 ?_
    refine gg_if_le X 22 45 d_W_step_22 rfl (fun _ => ?_) (fun _ => ?_)
    · exact t_W_step_45 X s1 _  (lv_sub hl [0] rfl)
    · refine gg_aload_n X 25 d_W_step_25 rfl (lv_at hl 0 rfl) ?_
      refine gg_get_W_tick X 26 (Or.inl (List.mem_cons_of_mem _ w_89)) d_W_step_26 ?_
      refine gg_aload_n X 29 d_W_step_29 rfl (lv_at hl 0 rfl) ?_
      refine gg_get_W_period X 30 (Or.inl (List.mem_cons_of_mem _ w_88)) d_W_step_30 ?_
      refine gg_irem X 33 d_W_step_33 (fun _ => ?_)
      refine gg_if_ne X 34 45 d_W_step_34 rfl (fun _ => ?_) (fun _ => ?_)
      · exact t_W_step_45 X s1 _  (lv_sub hl [0] rfl)
      · refine gg_aload_n X 37 d_W_step_37 rfl (lv_at hl 0 rfl) ?_
        refine gg_iconst X 38 (3 : Int32) d_W_step_38 (by decide) ?_
        refine gg_iconst X 39 (2 : Int32) d_W_step_39 (by decide) ?_
        refine gg_iconst X 40 (0 : Int32) d_W_step_40 (by decide) ?_
        refine gg_callV X 41 nwOk_E [.int (3 : Int32), .int (2 : Int32), .int (0 : Int32)] [] (fun _ _ h sz => M_W_leave l D dI ad _ (3 : Int32) (2 : Int32) (0 : Int32)  h sz) (cwV 3 X.1.2.2.2.2 (gwV w_269 w_271 ws_W_leave w_1 w_272) rfl rfl rfl (by decide +kernel) ⟨by decide, by decide⟩) (he_E_Main) rfl rfl hl.1 rfl (Nat.le_of_ble_eq_true rfl) ⟨Nat.zero_le _, Nat.zero_le _⟩ d_W_step_41 (fun r2 s3 ho4 => ?_)
        refine gg_show_v ?_
        exact gg_vret X 44 d_W_step_44
theorem M_W_step (l : Launch) (D : va_G) (dI : Nat → ClassId) (ad : Nat → Nat) (s : eS)   {r : Unit} {s' : eS} (h : f_W_step s = some (r, s')) (sz : Nat) : Met l y_W_step (Cond.code y_W_step prog_1_method_32_code 3 none :: WS) rm_W_step (Px (wE dI ad) D vwCl (tyE dI) nwE sz s [.ref (ad 0)]) (Qx rvV (wE dI ad) D vwCl (tyE dI) (va_A ((wE dI ad) s) sz) r s') 0 0 (va_A ((wE dI ad) s) sz) :=
  met_of [.ref (ad 0)] (by decide) rfl rfl (Nat.le_of_ble_eq_true rfl) h (fun p e s0 m args below meth c A ls X hl => t_W_step X s ls  hl)
set_option maxHeartbeats 4000000 in
set_option maxRecDepth 100000 in
theorem t_W_run_11 {p : Program} {l : Launch} {e : Env} {s0 : State} {m : MethodId} {args : Array Value} {below : List Frame} {meth : Method} {c : Code} {D : va_G} {A : Nat → Prop} {dI : Nat → ClassId} {ad : Nat → Nat} (X : CX p s0 m args meth c D vwCl (tyE dI) nwE A prog_1_method_11_code 3 (some .int) (Cond.code y_W_run prog_1_method_11_code 3 (some .int) :: WS) R_W)  (s : eS) (ls : Array Slot)  (hl : lv_has ls 3 []) : GG p l e rm_W_run s0 m args below meth c D vwCl (tyE dI) A (wE dI ad) 0 0 (QM below args s0 D vwCl (tyE dI) A (wE dI ad) rvI) (f_W_run_11 s) (F0 m 11 ls []) s := by
  unfold f_W_run_11
  refine gg_iconst X 11 (0 : Int32) d_W_run_11 (by decide) ?_
  exact gg_iret X 12 d_W_run_12
set_option maxHeartbeats 4000000 in
set_option maxRecDepth 100000 in
theorem t_W_run_15 {p : Program} {l : Launch} {e : Env} {s0 : State} {m : MethodId} {args : Array Value} {below : List Frame} {meth : Method} {c : Code} {D : va_G} {A : Nat → Prop} {dI : Nat → ClassId} {ad : Nat → Nat} (X : CX p s0 m args meth c D vwCl (tyE dI) nwE A prog_1_method_11_code 3 (some .int) (Cond.code y_W_run prog_1_method_11_code 3 (some .int) :: WS) R_W) : ∀ (fl : Nat) (x1 : Int32) (x2 : Int32) (s : eS) (ls : Array Slot), lv_has ls 3 [(0, .ref (ad 0)), (1, .int x1), (2, .int x2)] → GG p l e rm_W_run s0 m args below meth c D vwCl (tyE dI) A (wE dI ad) 0 0 (QM below args s0 D vwCl (tyE dI) A (wE dI ad) rvI) (f_W_run_15 fl x1 x2 s) (F0 m 15 ls []) s := by
  intro fl
  induction fl with
  | zero =>
    intro x1 x2 s ls hl
    rw [f_W_run_15]
    exact gg_none
  | succ fl ih =>
    intro x1 x2 s ls hl
    rw [f_W_run_15]
    refine gg_iload_n X 15 d_W_run_15 rfl (lv_at hl 2 rfl) ?_
    refine gg_iload_n X 16 d_W_run_16 rfl (lv_at hl 1 rfl) ?_
    refine gg_icmp_ge X 17 47 d_W_run_17 rfl (fun _ => ?_) (fun _ => ?_)
    · refine gg_iload_n X 47 d_W_run_47 rfl (lv_at hl 1 rfl) ?_
      exact gg_iret X 48 d_W_run_48
    · refine gg_aload_n X 20 d_W_run_20 rfl (lv_at hl 0 rfl) ?_
      refine gg_get_W_halted X 21 (Or.inl (List.mem_cons_of_mem _ w_86)) d_W_run_21 ?_
      refine gg_if_eq X 24 37 d_W_run_24 rfl (fun _ => ?_) (fun _ => ?_)
      · refine gg_aload_n X 37 d_W_run_37 rfl (lv_at hl 0 rfl) ?_
        refine gg_callV X 38 nwOk_E [] [] (fun _ _ h sz => M_W_step l D dI ad _   h sz) (cwV 0 X.1.2.2.2.2 (gwV w_265 w_267 ws_W_step w_1 w_268) rfl rfl rfl (by decide +kernel) ⟨by decide, by decide⟩) (he_E_Main) rfl rfl hl.1 rfl (Nat.le_of_ble_eq_true rfl) ⟨Nat.zero_le _, Nat.zero_le _⟩ d_W_run_38 (fun r1 s2 ho3 => ?_)
        refine gg_show_v ?_
        refine gg_iinc X 41 (k := 2) (1 : Int32) (fun v4 => [(2, .int v4), (0, .ref (ad 0)), (1, .int x1)]) d_W_run_41 hl rfl (by decide) (by decide) (fun _ => rfl) (fun v4 ls hl => ?_)
        refine gg_goto X 44 15 d_W_run_44 rfl ?_
        exact ih x1 v4 s2 _  (lv_sub hl [1, 2, 0] rfl)
      · refine gg_aload_n X 27 d_W_run_27 rfl (lv_at hl 0 rfl) ?_
        refine gg_get_W_running X 28 (Or.inl (List.mem_cons_of_mem _ w_87)) d_W_run_28 ?_
        refine gg_iconst X 31 (-1 : Int32) d_W_run_31 (by decide) ?_
        refine gg_icmp_ne X 32 37 d_W_run_32 rfl (fun _ => ?_) (fun _ => ?_)
        · refine gg_aload_n X 37 d_W_run_37 rfl (lv_at hl 0 rfl) ?_
          refine gg_callV X 38 nwOk_E [] [] (fun _ _ h sz => M_W_step l D dI ad _   h sz) (cwV 0 X.1.2.2.2.2 (gwV w_265 w_267 ws_W_step w_1 w_268) rfl rfl rfl (by decide +kernel) ⟨by decide, by decide⟩) (he_E_Main) rfl rfl hl.1 rfl (Nat.le_of_ble_eq_true rfl) ⟨Nat.zero_le _, Nat.zero_le _⟩ d_W_run_38 (fun r5 s6 ho7 => ?_)
          refine gg_show_v ?_
          refine gg_iinc X 41 (k := 2) (1 : Int32) (fun v8 => [(2, .int v8), (0, .ref (ad 0)), (1, .int x1)]) d_W_run_41 hl rfl (by decide) (by decide) (fun _ => rfl) (fun v8 ls hl => ?_)
          refine gg_goto X 44 15 d_W_run_44 rfl ?_
          exact ih x1 v8 s6 _  (lv_sub hl [1, 2, 0] rfl)
        · refine gg_iload_n X 35 d_W_run_35 rfl (lv_at hl 2 rfl) ?_
          exact gg_iret X 36 d_W_run_36
set_option maxHeartbeats 4000000 in
set_option maxRecDepth 100000 in
theorem t_W_run {p : Program} {l : Launch} {e : Env} {s0 : State} {m : MethodId} {args : Array Value} {below : List Frame} {meth : Method} {c : Code} {D : va_G} {A : Nat → Prop} {dI : Nat → ClassId} {ad : Nat → Nat} (X : CX p s0 m args meth c D vwCl (tyE dI) nwE A prog_1_method_11_code 3 (some .int) (Cond.code y_W_run prog_1_method_11_code 3 (some .int) :: WS) R_W) (a1 : Int32) (s : eS) (ls : Array Slot)  (hl : lv_has ls 3 [(0, .ref (ad 0)), (1, .int a1)]) : GG p l e rm_W_run s0 m args below meth c D vwCl (tyE dI) A (wE dI ad) 0 0 (QM below args s0 D vwCl (tyE dI) A (wE dI ad) rvI) (f_W_run a1 s) (F0 m 0 ls []) s := by
  unfold f_W_run
  refine gg_iload_n X 0 d_W_run_0 rfl (lv_at hl 1 rfl) ?_
  refine gg_if_lt X 1 11 d_W_run_1 rfl (fun _ => ?_) (fun _ => ?_)
  · exact t_W_run_11 X s _  (lv_sub hl [] rfl)
  · refine gg_iload_n X 4 d_W_run_4 rfl (lv_at hl 1 rfl) ?_
    refine gg_sipush X 5 (1000 : Int32) d_W_run_5 (by decide) ?_
    refine gg_icmp_le X 8 13 d_W_run_8 rfl (fun _ => ?_) (fun _ => ?_)
    · refine gg_iconst X 13 (0 : Int32) d_W_run_13 (by decide) ?_
      refine gg_istore_n X 14 (fun v1 => [(2, .int v1), (0, .ref (ad 0)), (1, .int a1)]) d_W_run_14 rfl hl (by decide) (fun _ => rfl) (fun v1 ls hl => ?_)
      exact t_W_run_15 X fu a1 v1 s _  (lv_sub hl [1, 2, 0] rfl)
    · exact t_W_run_11 X s _  (lv_sub hl [] rfl)
theorem M_W_run (l : Launch) (D : va_G) (dI : Nat → ClassId) (ad : Nat → Nat) (s : eS) (a1 : Int32)  {r : Int32} {s' : eS} (h : f_W_run a1 s = some (r, s')) (sz : Nat) : Met l y_W_run (Cond.code y_W_run prog_1_method_11_code 3 (some .int) :: WS) rm_W_run (Px (wE dI ad) D vwCl (tyE dI) nwE sz s [.ref (ad 0), .int a1]) (Qx rvI (wE dI ad) D vwCl (tyE dI) (va_A ((wE dI ad) s) sz) r s') 0 0 (va_A ((wE dI ad) s) sz) :=
  met_of [.ref (ad 0), .int a1] (by decide) rfl rfl (Nat.le_of_ble_eq_true rfl) h (fun p e s0 m args below meth c A ls X hl => t_W_run X a1 s ls  hl)
set_option maxHeartbeats 4000000 in
set_option maxRecDepth 100000 in
theorem t_W_period {p : Program} {l : Launch} {e : Env} {s0 : State} {m : MethodId} {args : Array Value} {below : List Frame} {meth : Method} {c : Code} {D : va_G} {A : Nat → Prop} {dI : Nat → ClassId} {ad : Nat → Nat} (X : CX p s0 m args meth c D vwCl (tyE dI) nwE A prog_1_method_12_code 2 none (Cond.code y_W_period prog_1_method_12_code 2 none :: WS) R_W) (a1 : Int32) (s : eS) (ls : Array Slot)  (hl : lv_has ls 2 [(0, .ref (ad 0)), (1, .int a1)]) : GG p l e rm_W_period s0 m args below meth c D vwCl (tyE dI) A (wE dI ad) 0 0 (QM below args s0 D vwCl (tyE dI) A (wE dI ad) rvV) (f_W_period a1 s) (F0 m 0 ls []) s := by
  unfold f_W_period
  refine gg_aload_n X 0 d_W_period_0 rfl (lv_at hl 0 rfl) ?_
  refine gg_iload_n X 1 d_W_period_1 rfl (lv_at hl 1 rfl) ?_
  refine gg_put_W_period X 2 (Or.inl (List.mem_cons_of_mem _ w_88)) d_W_period_2 (fun s1 => ?_)
  exact gg_vret X 5 d_W_period_5
theorem M_W_period (l : Launch) (D : va_G) (dI : Nat → ClassId) (ad : Nat → Nat) (s : eS) (a1 : Int32)  {r : Unit} {s' : eS} (h : f_W_period a1 s = some (r, s')) (sz : Nat) : Met l y_W_period (Cond.code y_W_period prog_1_method_12_code 2 none :: WS) rm_W_period (Px (wE dI ad) D vwCl (tyE dI) nwE sz s [.ref (ad 0), .int a1]) (Qx rvV (wE dI ad) D vwCl (tyE dI) (va_A ((wE dI ad) s) sz) r s') 0 0 (va_A ((wE dI ad) s) sz) :=
  met_of [.ref (ad 0), .int a1] (by decide) rfl rfl (Nat.le_of_ble_eq_true rfl) h (fun p e s0 m args below meth c A ls X hl => t_W_period X a1 s ls  hl)
set_option maxHeartbeats 4000000 in
set_option maxRecDepth 100000 in
theorem t_W_tick {p : Program} {l : Launch} {e : Env} {s0 : State} {m : MethodId} {args : Array Value} {below : List Frame} {meth : Method} {c : Code} {D : va_G} {A : Nat → Prop} {dI : Nat → ClassId} {ad : Nat → Nat} (X : CX p s0 m args meth c D vwCl (tyE dI) nwE A prog_1_method_13_code 1 (some .int) (Cond.code y_W_tick prog_1_method_13_code 1 (some .int) :: WS) R_W)  (s : eS) (ls : Array Slot)  (hl : lv_has ls 1 [(0, .ref (ad 0))]) : GG p l e rm_W_tick s0 m args below meth c D vwCl (tyE dI) A (wE dI ad) 0 0 (QM below args s0 D vwCl (tyE dI) A (wE dI ad) rvI) (f_W_tick s) (F0 m 0 ls []) s := by
  unfold f_W_tick
  refine gg_aload_n X 0 d_W_tick_0 rfl (lv_at hl 0 rfl) ?_
  refine gg_get_W_tick X 1 (Or.inl (List.mem_cons_of_mem _ w_89)) d_W_tick_1 ?_
  exact gg_iret X 4 d_W_tick_4
theorem M_W_tick (l : Launch) (D : va_G) (dI : Nat → ClassId) (ad : Nat → Nat) (s : eS)   {r : Int32} {s' : eS} (h : f_W_tick s = some (r, s')) (sz : Nat) : Met l y_W_tick (Cond.code y_W_tick prog_1_method_13_code 1 (some .int) :: WS) rm_W_tick (Px (wE dI ad) D vwCl (tyE dI) nwE sz s [.ref (ad 0)]) (Qx rvI (wE dI ad) D vwCl (tyE dI) (va_A ((wE dI ad) s) sz) r s') 0 0 (va_A ((wE dI ad) s) sz) :=
  met_of [.ref (ad 0)] (by decide) rfl rfl (Nat.le_of_ble_eq_true rfl) h (fun p e s0 m args below meth c A ls X hl => t_W_tick X s ls  hl)
set_option maxHeartbeats 4000000 in
set_option maxRecDepth 100000 in
theorem t_W_running {p : Program} {l : Launch} {e : Env} {s0 : State} {m : MethodId} {args : Array Value} {below : List Frame} {meth : Method} {c : Code} {D : va_G} {A : Nat → Prop} {dI : Nat → ClassId} {ad : Nat → Nat} (X : CX p s0 m args meth c D vwCl (tyE dI) nwE A prog_1_method_14_code 1 (some .int) (Cond.code y_W_running prog_1_method_14_code 1 (some .int) :: WS) R_W)  (s : eS) (ls : Array Slot)  (hl : lv_has ls 1 [(0, .ref (ad 0))]) : GG p l e rm_W_running s0 m args below meth c D vwCl (tyE dI) A (wE dI ad) 0 0 (QM below args s0 D vwCl (tyE dI) A (wE dI ad) rvI) (f_W_running s) (F0 m 0 ls []) s := by
  unfold f_W_running
  refine gg_aload_n X 0 d_W_running_0 rfl (lv_at hl 0 rfl) ?_
  refine gg_get_W_running X 1 (Or.inl (List.mem_cons_of_mem _ w_87)) d_W_running_1 ?_
  exact gg_iret X 4 d_W_running_4
theorem M_W_running (l : Launch) (D : va_G) (dI : Nat → ClassId) (ad : Nat → Nat) (s : eS)   {r : Int32} {s' : eS} (h : f_W_running s = some (r, s')) (sz : Nat) : Met l y_W_running (Cond.code y_W_running prog_1_method_14_code 1 (some .int) :: WS) rm_W_running (Px (wE dI ad) D vwCl (tyE dI) nwE sz s [.ref (ad 0)]) (Qx rvI (wE dI ad) D vwCl (tyE dI) (va_A ((wE dI ad) s) sz) r s') 0 0 (va_A ((wE dI ad) s) sz) :=
  met_of [.ref (ad 0)] (by decide) rfl rfl (Nat.le_of_ble_eq_true rfl) h (fun p e s0 m args below meth c A ls X hl => t_W_running X s ls  hl)
set_option maxHeartbeats 4000000 in
set_option maxRecDepth 100000 in
theorem t_W_region {p : Program} {l : Launch} {e : Env} {s0 : State} {m : MethodId} {args : Array Value} {below : List Frame} {meth : Method} {c : Code} {D : va_G} {A : Nat → Prop} {dI : Nat → ClassId} {ad : Nat → Nat} (X : CX p s0 m args meth c D vwCl (tyE dI) nwE A prog_1_method_15_code 2 (some .int) (Cond.code y_W_region prog_1_method_15_code 2 (some .int) :: WS) R_W) (a1 : Int32) (s : eS) (ls : Array Slot)  (hl : lv_has ls 2 [(0, .ref (ad 0)), (1, .int a1)]) : GG p l e rm_W_region s0 m args below meth c D vwCl (tyE dI) A (wE dI ad) 0 0 (QM below args s0 D vwCl (tyE dI) A (wE dI ad) rvI) (f_W_region a1 s) (F0 m 0 ls []) s := by
  unfold f_W_region
  refine gg_iload_n X 0 d_W_region_0 rfl (lv_at hl 1 rfl) ?_
  refine gg_callS X 1 nwOk_E [.int a1] [] (fun _ _ h sz => M_W_isRegion l D dI ad _ a1  h sz) (cwS 1 X.1.2.2.2.2 (gwS w_170 w_171 w_1 w_172) rfl rfl rfl (by decide +kernel) ⟨by decide, by decide⟩) rfl hl.1 rfl (Nat.le_of_ble_eq_true rfl) ⟨Nat.zero_le _, Nat.zero_le _⟩ d_W_region_1 (fun r1 s2 ho3 => ?_)
  refine gg_show_i ?_
  refine gg_if_eq X 4 16 d_W_region_4 rfl (fun _ => ?_) (fun _ => ?_)
  · refine gg_iconst X 16 (-1 : Int32) d_W_region_16 (by decide) ?_
    exact gg_iret X 17 d_W_region_17
  · refine gg_aload_n X 7 d_W_region_7 rfl (lv_at hl 0 rfl) ?_
    refine gg_get_W_kinds X 8 (Or.inl (List.mem_cons_of_mem _ w_82)) d_W_region_8 ?_
    refine gg_iload_n X 11 d_W_region_11 rfl (lv_at hl 1 rfl) ?_
    refine gg_ald_KIN X 12 d_W_region_12 ?_
    refine gg_goto X 13 17 d_W_region_13 rfl ?_
    exact gg_iret X 17 d_W_region_17
theorem M_W_region (l : Launch) (D : va_G) (dI : Nat → ClassId) (ad : Nat → Nat) (s : eS) (a1 : Int32)  {r : Int32} {s' : eS} (h : f_W_region a1 s = some (r, s')) (sz : Nat) : Met l y_W_region (Cond.code y_W_region prog_1_method_15_code 2 (some .int) :: WS) rm_W_region (Px (wE dI ad) D vwCl (tyE dI) nwE sz s [.ref (ad 0), .int a1]) (Qx rvI (wE dI ad) D vwCl (tyE dI) (va_A ((wE dI ad) s) sz) r s') 0 0 (va_A ((wE dI ad) s) sz) :=
  met_of [.ref (ad 0), .int a1] (by decide) rfl rfl (Nat.le_of_ble_eq_true rfl) h (fun p e s0 m args below meth c A ls X hl => t_W_region X a1 s ls  hl)
set_option maxHeartbeats 4000000 in
set_option maxRecDepth 100000 in
theorem t_W_enclave {p : Program} {l : Launch} {e : Env} {s0 : State} {m : MethodId} {args : Array Value} {below : List Frame} {meth : Method} {c : Code} {D : va_G} {A : Nat → Prop} {dI : Nat → ClassId} {ad : Nat → Nat} (X : CX p s0 m args meth c D vwCl (tyE dI) nwE A prog_1_method_16_code 2 (some .int) (Cond.code y_W_enclave prog_1_method_16_code 2 (some .int) :: WS) R_W) (a1 : Int32) (s : eS) (ls : Array Slot)  (hl : lv_has ls 2 [(0, .ref (ad 0)), (1, .int a1)]) : GG p l e rm_W_enclave s0 m args below meth c D vwCl (tyE dI) A (wE dI ad) 0 0 (QM below args s0 D vwCl (tyE dI) A (wE dI ad) rvI) (f_W_enclave a1 s) (F0 m 0 ls []) s := by
  unfold f_W_enclave
  refine gg_iload_n X 0 d_W_enclave_0 rfl (lv_at hl 1 rfl) ?_
  refine gg_callS X 1 nwOk_E [.int a1] [] (fun _ _ h sz => M_W_isEnclave l D dI ad _ a1  h sz) (cwS 1 X.1.2.2.2.2 (gwS w_194 w_195 w_1 w_196) rfl rfl rfl (by decide +kernel) ⟨by decide, by decide⟩) rfl hl.1 rfl (Nat.le_of_ble_eq_true rfl) ⟨Nat.zero_le _, Nat.zero_le _⟩ d_W_enclave_1 (fun r1 s2 ho3 => ?_)
  refine gg_show_i ?_
  refine gg_if_eq X 4 19 d_W_enclave_4 rfl (fun _ => ?_) (fun _ => ?_)
  · refine gg_iconst X 19 (-1 : Int32) d_W_enclave_19 (by decide) ?_
    exact gg_iret X 20 d_W_enclave_20
  · refine gg_aload_n X 7 d_W_enclave_7 rfl (lv_at hl 0 rfl) ?_
    refine gg_get_W_enclaves X 8 (Or.inl (List.mem_cons_of_mem _ w_83)) d_W_enclave_8 ?_
    refine gg_iload_n X 11 d_W_enclave_11 rfl (lv_at hl 1 rfl) ?_
    refine gg_ald_ENA X 12 d_W_enclave_12 (fun hi4 => ?_)
    refine gg_get_V_state X 13 (ixb hi4) (Or.inr ⟨_, nw_9⟩) d_W_enclave_13 ?_
    refine gg_goto X 16 20 d_W_enclave_16 rfl ?_
    exact gg_iret X 20 d_W_enclave_20
theorem M_W_enclave (l : Launch) (D : va_G) (dI : Nat → ClassId) (ad : Nat → Nat) (s : eS) (a1 : Int32)  {r : Int32} {s' : eS} (h : f_W_enclave a1 s = some (r, s')) (sz : Nat) : Met l y_W_enclave (Cond.code y_W_enclave prog_1_method_16_code 2 (some .int) :: WS) rm_W_enclave (Px (wE dI ad) D vwCl (tyE dI) nwE sz s [.ref (ad 0), .int a1]) (Qx rvI (wE dI ad) D vwCl (tyE dI) (va_A ((wE dI ad) s) sz) r s') 0 0 (va_A ((wE dI ad) s) sz) :=
  met_of [.ref (ad 0), .int a1] (by decide) rfl rfl (Nat.le_of_ble_eq_true rfl) h (fun p e s0 m args below meth c A ls X hl => t_W_enclave X a1 s ls  hl)
set_option maxHeartbeats 4000000 in
set_option maxRecDepth 100000 in
theorem t_W_thread_31 {p : Program} {l : Launch} {e : Env} {s0 : State} {m : MethodId} {args : Array Value} {below : List Frame} {meth : Method} {c : Code} {D : va_G} {A : Nat → Prop} {dI : Nat → ClassId} {ad : Nat → Nat} (X : CX p s0 m args meth c D vwCl (tyE dI) nwE A prog_1_method_17_code 3 (some .int) (Cond.code y_W_thread prog_1_method_17_code 3 (some .int) :: WS) R_W)  (s : eS) (ls : Array Slot)  (hl : lv_has ls 3 []) : GG p l e rm_W_thread s0 m args below meth c D vwCl (tyE dI) A (wE dI ad) 0 0 (QM below args s0 D vwCl (tyE dI) A (wE dI ad) rvI) (f_W_thread_31 s) (F0 m 31 ls []) s := by
  unfold f_W_thread_31
  refine gg_iconst X 31 (0 : Int32) d_W_thread_31 (by decide) ?_
  exact gg_iret X 32 d_W_thread_32
set_option maxHeartbeats 4000000 in
set_option maxRecDepth 100000 in
theorem t_W_thread {p : Program} {l : Launch} {e : Env} {s0 : State} {m : MethodId} {args : Array Value} {below : List Frame} {meth : Method} {c : Code} {D : va_G} {A : Nat → Prop} {dI : Nat → ClassId} {ad : Nat → Nat} (X : CX p s0 m args meth c D vwCl (tyE dI) nwE A prog_1_method_17_code 3 (some .int) (Cond.code y_W_thread prog_1_method_17_code 3 (some .int) :: WS) R_W) (a1 : Int32) (a2 : Int32) (s : eS) (ls : Array Slot)  (hl : lv_has ls 3 [(0, .ref (ad 0)), (1, .int a1), (2, .int a2)]) : GG p l e rm_W_thread s0 m args below meth c D vwCl (tyE dI) A (wE dI ad) 0 0 (QM below args s0 D vwCl (tyE dI) A (wE dI ad) rvI) (f_W_thread a1 a2 s) (F0 m 0 ls []) s := by
  unfold f_W_thread
  refine gg_iload_n X 0 d_W_thread_0 rfl (lv_at hl 1 rfl) ?_
  refine gg_callS X 1 nwOk_E [.int a1] [] (fun _ _ h sz => M_W_isEnclave l D dI ad _ a1  h sz) (cwS 1 X.1.2.2.2.2 (gwS w_194 w_195 w_1 w_196) rfl rfl rfl (by decide +kernel) ⟨by decide, by decide⟩) rfl hl.1 rfl (Nat.le_of_ble_eq_true rfl) ⟨Nat.zero_le _, Nat.zero_le _⟩ d_W_thread_1 (fun r1 s2 ho3 => ?_)
  refine gg_show_i ?_
  refine gg_if_eq X 4 31 d_W_thread_4 rfl (fun _ => ?_) (fun _ => ?_)
  · exact t_W_thread_31 X s2 _  (lv_sub hl [] rfl)
  · refine gg_iload_n X 7 d_W_thread_7 rfl (lv_at hl 2 rfl) ?_
    refine gg_callS X 8 nwOk_E [.int a2] [] (fun _ _ h sz => M_W_isThread l D dI ad _ a2  h sz) (cwS 1 X.1.2.2.2.2 (gwS w_225 w_226 w_1 w_227) rfl rfl rfl (by decide +kernel) ⟨by decide, by decide⟩) rfl hl.1 rfl (Nat.le_of_ble_eq_true rfl) ⟨Nat.zero_le _, Nat.zero_le _⟩ d_W_thread_8 (fun r4 s5 ho6 => ?_)
    refine gg_show_i ?_
    refine gg_if_eq X 11 31 d_W_thread_11 rfl (fun _ => ?_) (fun _ => ?_)
    · exact t_W_thread_31 X s5 _  (lv_sub hl [] rfl)
    · refine gg_aload_n X 14 d_W_thread_14 rfl (lv_at hl 0 rfl) ?_
      refine gg_get_W_enclaves X 15 (Or.inl (List.mem_cons_of_mem _ w_83)) d_W_thread_15 ?_
      refine gg_iload_n X 18 d_W_thread_18 rfl (lv_at hl 1 rfl) ?_
      refine gg_ald_ENA X 19 d_W_thread_19 (fun hi7 => ?_)
      refine gg_get_V_threads X 20 (ixb hi7) (Or.inr ⟨_, nw_8⟩) d_W_thread_20 ?_
      refine gg_iload_n X 23 d_W_thread_23 rfl (lv_at hl 2 rfl) ?_
      refine gg_ald_TA X 24 (ixb hi7) d_W_thread_24 (fun hi8 => ?_)
      refine gg_get_T_state X 25 (ixb2 (ixb hi7) (ixb hi8)) (Or.inr ⟨_, nw_6⟩) d_W_thread_25 ?_
      refine gg_goto X 28 32 d_W_thread_28 rfl ?_
      exact gg_iret X 32 d_W_thread_32
theorem M_W_thread (l : Launch) (D : va_G) (dI : Nat → ClassId) (ad : Nat → Nat) (s : eS) (a1 : Int32) (a2 : Int32)  {r : Int32} {s' : eS} (h : f_W_thread a1 a2 s = some (r, s')) (sz : Nat) : Met l y_W_thread (Cond.code y_W_thread prog_1_method_17_code 3 (some .int) :: WS) rm_W_thread (Px (wE dI ad) D vwCl (tyE dI) nwE sz s [.ref (ad 0), .int a1, .int a2]) (Qx rvI (wE dI ad) D vwCl (tyE dI) (va_A ((wE dI ad) s) sz) r s') 0 0 (va_A ((wE dI ad) s) sz) :=
  met_of [.ref (ad 0), .int a1, .int a2] (by decide) rfl rfl (Nat.le_of_ble_eq_true rfl) h (fun p e s0 m args below meth c A ls X hl => t_W_thread X a1 a2 s ls  hl)
set_option maxHeartbeats 4000000 in
set_option maxRecDepth 100000 in
theorem t_W_kept_14 {p : Program} {l : Launch} {e : Env} {s0 : State} {m : MethodId} {args : Array Value} {below : List Frame} {meth : Method} {c : Code} {D : va_G} {A : Nat → Prop} {dI : Nat → ClassId} {ad : Nat → Nat} (X : CX p s0 m args meth c D vwCl (tyE dI) nwE A prog_1_method_18_code 5 (some .int) (Cond.code y_W_kept prog_1_method_18_code 5 (some .int) :: WS) R_W)  (s : eS) (ls : Array Slot)  (hl : lv_has ls 5 []) : GG p l e rm_W_kept s0 m args below meth c D vwCl (tyE dI) A (wE dI ad) 0 0 (QM below args s0 D vwCl (tyE dI) A (wE dI ad) rvI) (f_W_kept_14 s) (F0 m 14 ls []) s := by
  unfold f_W_kept_14
  refine gg_iconst X 14 (0 : Int32) d_W_kept_14 (by decide) ?_
  exact gg_iret X 15 d_W_kept_15
set_option maxHeartbeats 4000000 in
set_option maxRecDepth 100000 in
theorem t_W_kept_49 {p : Program} {l : Launch} {e : Env} {s0 : State} {m : MethodId} {args : Array Value} {below : List Frame} {meth : Method} {c : Code} {D : va_G} {A : Nat → Prop} {dI : Nat → ClassId} {ad : Nat → Nat} (X : CX p s0 m args meth c D vwCl (tyE dI) nwE A prog_1_method_18_code 5 (some .int) (Cond.code y_W_kept prog_1_method_18_code 5 (some .int) :: WS) R_W) (x3 : Int32) (m4 : Nat) (s : eS) (ls : Array Slot) (hm4 : m4 < 6) (hl : lv_has ls 5 [(3, .int x3), (4, .ref (ad (11 + m4)))]) : GG p l e rm_W_kept s0 m args below meth c D vwCl (tyE dI) A (wE dI ad) 0 0 (QM below args s0 D vwCl (tyE dI) A (wE dI ad) rvI) (f_W_kept_49 x3 m4 s) (F0 m 49 ls []) s := by
  unfold f_W_kept_49
  refine gg_iload_n X 49 d_W_kept_49 rfl (lv_at hl 0 rfl) ?_
  refine gg_bipush X 50 (8 : Int32) d_W_kept_50 (by decide) ?_
  refine gg_icmp_ne X 52 66 d_W_kept_52 rfl (fun _ => ?_) (fun _ => ?_)
  · refine gg_aload X 66 d_W_kept_66 (lv_at hl 1 rfl) ?_
    refine gg_get_T_core X 68 hm4 (Or.inr ⟨_, nw_4⟩) d_W_kept_68 ?_
    refine gg_iload_n X 71 d_W_kept_71 rfl (lv_at hl 0 rfl) ?_
    refine gg_callVN X 72 nwOk_E [.int x3] [] (fun _ _ h sz => M_C_get l D dI ad _ m4 x3 (Nat.lt_of_lt_of_le hm4 (by decide)) h sz) (⟨va_cnB 1 X.1.2.2.2.2 (gwB w_145) rfl rfl rfl (X.2.2.2.2.2 _ nw_14) (X.1.2.2.2.2 _ (List.mem_cons_of_mem _ w_4)) (by decide +kernel) ⟨by decide, by decide⟩, X.1.2.2.2.2 _ (List.mem_cons_of_mem _ w_144), X.1.2.2.2.2 _ (List.mem_cons_of_mem _ ws_C_get)⟩) (he_E_Core (Nat.lt_of_lt_of_le hm4 (by decide))) rfl rfl hl.1 rfl (Nat.le_of_ble_eq_true rfl) ⟨Nat.zero_le _, Nat.zero_le _⟩ d_W_kept_72 (fun r1 s2 ho3 => ?_)
    refine gg_show_i ?_
    exact gg_iret X 75 d_W_kept_75
  · refine gg_aload X 55 d_W_kept_55 (lv_at hl 1 rfl) ?_
    refine gg_get_T_core X 57 hm4 (Or.inr ⟨_, nw_4⟩) d_W_kept_57 ?_
    refine gg_get_C_pc X 60 (Nat.lt_of_lt_of_le hm4 (by decide)) (Or.inr ⟨_, nw_3⟩) d_W_kept_60 ?_
    refine gg_goto X 63 75 d_W_kept_63 rfl ?_
    exact gg_iret X 75 d_W_kept_75
set_option maxHeartbeats 4000000 in
set_option maxRecDepth 100000 in
theorem t_W_kept {p : Program} {l : Launch} {e : Env} {s0 : State} {m : MethodId} {args : Array Value} {below : List Frame} {meth : Method} {c : Code} {D : va_G} {A : Nat → Prop} {dI : Nat → ClassId} {ad : Nat → Nat} (X : CX p s0 m args meth c D vwCl (tyE dI) nwE A prog_1_method_18_code 5 (some .int) (Cond.code y_W_kept prog_1_method_18_code 5 (some .int) :: WS) R_W) (a1 : Int32) (a2 : Int32) (a3 : Int32) (s : eS) (ls : Array Slot)  (hl : lv_has ls 5 [(0, .ref (ad 0)), (1, .int a1), (2, .int a2), (3, .int a3)]) : GG p l e rm_W_kept s0 m args below meth c D vwCl (tyE dI) A (wE dI ad) 0 0 (QM below args s0 D vwCl (tyE dI) A (wE dI ad) rvI) (f_W_kept a1 a2 a3 s) (F0 m 0 ls []) s := by
  unfold f_W_kept
  refine gg_iload_n X 0 d_W_kept_0 rfl (lv_at hl 1 rfl) ?_
  refine gg_callS X 1 nwOk_E [.int a1] [] (fun _ _ h sz => M_W_isEnclave l D dI ad _ a1  h sz) (cwS 1 X.1.2.2.2.2 (gwS w_194 w_195 w_1 w_196) rfl rfl rfl (by decide +kernel) ⟨by decide, by decide⟩) rfl hl.1 rfl (Nat.le_of_ble_eq_true rfl) ⟨Nat.zero_le _, Nat.zero_le _⟩ d_W_kept_1 (fun r1 s2 ho3 => ?_)
  refine gg_show_i ?_
  refine gg_if_eq X 4 14 d_W_kept_4 rfl (fun _ => ?_) (fun _ => ?_)
  · exact t_W_kept_14 X s2 _  (lv_sub hl [] rfl)
  · refine gg_iload_n X 7 d_W_kept_7 rfl (lv_at hl 2 rfl) ?_
    refine gg_callS X 8 nwOk_E [.int a2] [] (fun _ _ h sz => M_W_isThread l D dI ad _ a2  h sz) (cwS 1 X.1.2.2.2.2 (gwS w_225 w_226 w_1 w_227) rfl rfl rfl (by decide +kernel) ⟨by decide, by decide⟩) rfl hl.1 rfl (Nat.le_of_ble_eq_true rfl) ⟨Nat.zero_le _, Nat.zero_le _⟩ d_W_kept_8 (fun r4 s5 ho6 => ?_)
    refine gg_show_i ?_
    refine gg_if_ne X 11 16 d_W_kept_11 rfl (fun _ => ?_) (fun _ => ?_)
    · refine gg_aload_n X 16 d_W_kept_16 rfl (lv_at hl 0 rfl) ?_
      refine gg_get_W_enclaves X 17 (Or.inl (List.mem_cons_of_mem _ w_83)) d_W_kept_17 ?_
      refine gg_iload_n X 20 d_W_kept_20 rfl (lv_at hl 1 rfl) ?_
      refine gg_ald_ENA X 21 d_W_kept_21 (fun hi7 => ?_)
      refine gg_get_V_threads X 22 (ixb hi7) (Or.inr ⟨_, nw_8⟩) d_W_kept_22 ?_
      refine gg_iload_n X 25 d_W_kept_25 rfl (lv_at hl 2 rfl) ?_
      refine gg_ald_TA X 26 (ixb hi7) d_W_kept_26 (fun hi8 => ?_)
      refine gg_astore X 27 6 (fun t9 => [(4, .ref (ad (11 + t9))), (0, .ref (ad 0)), (1, .int a1), (2, .int a2), (3, .int a3)]) d_W_kept_27 hl (by decide) (fun _ => rfl) (ixb2 (ixb hi7) (ixb hi8)) (fun t9 ls ht10 hl => ?_)
      refine gg_aload X 29 d_W_kept_29 (lv_at hl 0 rfl) ?_
      refine gg_get_T_state X 31 ht10 (Or.inr ⟨_, nw_6⟩) d_W_kept_31 ?_
      refine gg_iconst X 34 (2 : Int32) d_W_kept_34 (by decide) ?_
      refine gg_icmp_eq X 35 49 d_W_kept_35 rfl (fun _ => ?_) (fun _ => ?_)
      · exact t_W_kept_49 X a3 t9 s5 _ ht10 (lv_sub hl [4, 0] rfl)
      · refine gg_aload X 38 d_W_kept_38 (lv_at hl 0 rfl) ?_
        refine gg_get_T_state X 40 ht10 (Or.inr ⟨_, nw_6⟩) d_W_kept_40 ?_
        refine gg_iconst X 43 (3 : Int32) d_W_kept_43 (by decide) ?_
        refine gg_icmp_eq X 44 49 d_W_kept_44 rfl (fun _ => ?_) (fun _ => ?_)
        · exact t_W_kept_49 X a3 t9 s5 _ ht10 (lv_sub hl [4, 0] rfl)
        · refine gg_iconst X 47 (0 : Int32) d_W_kept_47 (by decide) ?_
          exact gg_iret X 48 d_W_kept_48
    · exact t_W_kept_14 X s5 _  (lv_sub hl [] rfl)
theorem M_W_kept (l : Launch) (D : va_G) (dI : Nat → ClassId) (ad : Nat → Nat) (s : eS) (a1 : Int32) (a2 : Int32) (a3 : Int32)  {r : Int32} {s' : eS} (h : f_W_kept a1 a2 a3 s = some (r, s')) (sz : Nat) : Met l y_W_kept (Cond.code y_W_kept prog_1_method_18_code 5 (some .int) :: WS) rm_W_kept (Px (wE dI ad) D vwCl (tyE dI) nwE sz s [.ref (ad 0), .int a1, .int a2, .int a3]) (Qx rvI (wE dI ad) D vwCl (tyE dI) (va_A ((wE dI ad) s) sz) r s') 0 0 (va_A ((wE dI ad) s) sz) :=
  met_of [.ref (ad 0), .int a1, .int a2, .int a3] (by decide) rfl rfl (Nat.le_of_ble_eq_true rfl) h (fun p e s0 m args below meth c A ls X hl => t_W_kept X a1 a2 a3 s ls  hl)
set_option maxHeartbeats 4000000 in
set_option maxRecDepth 100000 in
theorem t_W_measure {p : Program} {l : Launch} {e : Env} {s0 : State} {m : MethodId} {args : Array Value} {below : List Frame} {meth : Method} {c : Code} {D : va_G} {A : Nat → Prop} {dI : Nat → ClassId} {ad : Nat → Nat} (X : CX p s0 m args meth c D vwCl (tyE dI) nwE A prog_1_method_19_code 2 (some .int) (Cond.code y_W_measure prog_1_method_19_code 2 (some .int) :: WS) R_W) (a1 : Int32) (s : eS) (ls : Array Slot)  (hl : lv_has ls 2 [(0, .ref (ad 0)), (1, .int a1)]) : GG p l e rm_W_measure s0 m args below meth c D vwCl (tyE dI) A (wE dI ad) 0 0 (QM below args s0 D vwCl (tyE dI) A (wE dI ad) rvI) (f_W_measure a1 s) (F0 m 0 ls []) s := by
  unfold f_W_measure
  refine gg_iload_n X 0 d_W_measure_0 rfl (lv_at hl 1 rfl) ?_
  refine gg_callS X 1 nwOk_E [.int a1] [] (fun _ _ h sz => M_W_isEnclave l D dI ad _ a1  h sz) (cwS 1 X.1.2.2.2.2 (gwS w_194 w_195 w_1 w_196) rfl rfl rfl (by decide +kernel) ⟨by decide, by decide⟩) rfl hl.1 rfl (Nat.le_of_ble_eq_true rfl) ⟨Nat.zero_le _, Nat.zero_le _⟩ d_W_measure_1 (fun r1 s2 ho3 => ?_)
  refine gg_show_i ?_
  refine gg_if_eq X 4 19 d_W_measure_4 rfl (fun _ => ?_) (fun _ => ?_)
  · refine gg_iconst X 19 (0 : Int32) d_W_measure_19 (by decide) ?_
    exact gg_iret X 20 d_W_measure_20
  · refine gg_aload_n X 7 d_W_measure_7 rfl (lv_at hl 0 rfl) ?_
    refine gg_get_W_enclaves X 8 (Or.inl (List.mem_cons_of_mem _ w_83)) d_W_measure_8 ?_
    refine gg_iload_n X 11 d_W_measure_11 rfl (lv_at hl 1 rfl) ?_
    refine gg_ald_ENA X 12 d_W_measure_12 (fun hi4 => ?_)
    refine gg_get_V_measure X 13 (ixb hi4) (Or.inr ⟨_, nw_10⟩) d_W_measure_13 ?_
    refine gg_goto X 16 20 d_W_measure_16 rfl ?_
    exact gg_iret X 20 d_W_measure_20
theorem M_W_measure (l : Launch) (D : va_G) (dI : Nat → ClassId) (ad : Nat → Nat) (s : eS) (a1 : Int32)  {r : Int32} {s' : eS} (h : f_W_measure a1 s = some (r, s')) (sz : Nat) : Met l y_W_measure (Cond.code y_W_measure prog_1_method_19_code 2 (some .int) :: WS) rm_W_measure (Px (wE dI ad) D vwCl (tyE dI) nwE sz s [.ref (ad 0), .int a1]) (Qx rvI (wE dI ad) D vwCl (tyE dI) (va_A ((wE dI ad) s) sz) r s') 0 0 (va_A ((wE dI ad) s) sz) :=
  met_of [.ref (ad 0), .int a1] (by decide) rfl rfl (Nat.le_of_ble_eq_true rfl) h (fun p e s0 m args below meth c A ls X hl => t_W_measure X a1 s ls  hl)
set_option maxHeartbeats 4000000 in
set_option maxRecDepth 100000 in
theorem t_W_vouch {p : Program} {l : Launch} {e : Env} {s0 : State} {m : MethodId} {args : Array Value} {below : List Frame} {meth : Method} {c : Code} {D : va_G} {A : Nat → Prop} {dI : Nat → ClassId} {ad : Nat → Nat} (X : CX p s0 m args meth c D vwCl (tyE dI) nwE A prog_1_method_20_code 4 (some .boolean) (Cond.code y_W_vouch prog_1_method_20_code 4 (some .boolean) :: WS) R_W) (a1 : Int32) (a2 : Int32) (a3 : Int32) (s : eS) (ls : Array Slot)  (hl : lv_has ls 4 [(0, .ref (ad 0)), (1, .int a1), (2, .int a2), (3, .int a3)]) : GG p l e rm_W_vouch s0 m args below meth c D vwCl (tyE dI) A (wE dI ad) 0 0 (QM below args s0 D vwCl (tyE dI) A (wE dI ad) rvI) (f_W_vouch a1 a2 a3 s) (F0 m 0 ls []) s := by
  unfold f_W_vouch
  refine gg_aload_n X 0 d_W_vouch_0 rfl (lv_at hl 0 rfl) ?_
  refine gg_iload_n X 1 d_W_vouch_1 rfl (lv_at hl 1 rfl) ?_
  refine gg_iload_n X 2 d_W_vouch_2 rfl (lv_at hl 2 rfl) ?_
  refine gg_callV X 3 nwOk_E [.int a1, .int a2] [] (fun _ _ h sz => M_W_macOf l D dI ad _ a1 a2  h sz) (cwV 2 X.1.2.2.2.2 (gwV w_297 w_299 ws_W_macOf w_1 w_300) rfl rfl rfl (by decide +kernel) ⟨by decide, by decide⟩) (he_E_Main) rfl rfl hl.1 rfl (Nat.le_of_ble_eq_true rfl) ⟨Nat.zero_le _, Nat.zero_le _⟩ d_W_vouch_3 (fun r1 s2 ho3 => ?_)
  refine gg_show_i ?_
  refine gg_iload_n X 6 d_W_vouch_6 rfl (lv_at hl 3 rfl) ?_
  refine gg_icmp_ne X 7 14 d_W_vouch_7 rfl (fun _ => ?_) (fun _ => ?_)
  · refine gg_iconst X 14 (0 : Int32) d_W_vouch_14 (by decide) ?_
    exact gg_zretk X 15 rfl d_W_vouch_15
  · refine gg_iconst X 10 (1 : Int32) d_W_vouch_10 (by decide) ?_
    refine gg_goto X 11 15 d_W_vouch_11 rfl ?_
    exact gg_zretk X 15 rfl d_W_vouch_15
theorem M_W_vouch (l : Launch) (D : va_G) (dI : Nat → ClassId) (ad : Nat → Nat) (s : eS) (a1 : Int32) (a2 : Int32) (a3 : Int32)  {r : Int32} {s' : eS} (h : f_W_vouch a1 a2 a3 s = some (r, s')) (sz : Nat) : Met l y_W_vouch (Cond.code y_W_vouch prog_1_method_20_code 4 (some .boolean) :: WS) rm_W_vouch (Px (wE dI ad) D vwCl (tyE dI) nwE sz s [.ref (ad 0), .int a1, .int a2, .int a3]) (Qx rvI (wE dI ad) D vwCl (tyE dI) (va_A ((wE dI ad) s) sz) r s') 0 0 (va_A ((wE dI ad) s) sz) :=
  met_of [.ref (ad 0), .int a1, .int a2, .int a3] (by decide) rfl rfl (Nat.le_of_ble_eq_true rfl) h (fun p e s0 m args below meth c A ls X hl => t_W_vouch X a1 a2 a3 s ls  hl)
set_option maxHeartbeats 4000000 in
set_option maxRecDepth 100000 in
theorem t_W_exit_22 {p : Program} {l : Launch} {e : Env} {s0 : State} {m : MethodId} {args : Array Value} {below : List Frame} {meth : Method} {c : Code} {D : va_G} {A : Nat → Prop} {dI : Nat → ClassId} {ad : Nat → Nat} (X : CX p s0 m args meth c D vwCl (tyE dI) nwE A prog_1_method_21_code 2 (some .int) (Cond.code y_W_exit prog_1_method_21_code 2 (some .int) :: WS) R_W)  (s : eS) (ls : Array Slot)  (hl : lv_has ls 2 []) : GG p l e rm_W_exit s0 m args below meth c D vwCl (tyE dI) A (wE dI ad) 0 0 (QM below args s0 D vwCl (tyE dI) A (wE dI ad) rvI) (f_W_exit_22 s) (F0 m 22 ls []) s := by
  unfold f_W_exit_22
  refine gg_iconst X 22 (0 : Int32) d_W_exit_22 (by decide) ?_
  exact gg_iret X 23 d_W_exit_23
set_option maxHeartbeats 4000000 in
set_option maxRecDepth 100000 in
theorem t_W_exit {p : Program} {l : Launch} {e : Env} {s0 : State} {m : MethodId} {args : Array Value} {below : List Frame} {meth : Method} {c : Code} {D : va_G} {A : Nat → Prop} {dI : Nat → ClassId} {ad : Nat → Nat} (X : CX p s0 m args meth c D vwCl (tyE dI) nwE A prog_1_method_21_code 2 (some .int) (Cond.code y_W_exit prog_1_method_21_code 2 (some .int) :: WS) R_W) (a1 : Int32) (s : eS) (ls : Array Slot)  (hl : lv_has ls 2 [(0, .ref (ad 0)), (1, .int a1)]) : GG p l e rm_W_exit s0 m args below meth c D vwCl (tyE dI) A (wE dI ad) 0 0 (QM below args s0 D vwCl (tyE dI) A (wE dI ad) rvI) (f_W_exit a1 s) (F0 m 0 ls []) s := by
  unfold f_W_exit
  refine gg_iload_n X 0 d_W_exit_0 rfl (lv_at hl 1 rfl) ?_
  refine gg_if_lt X 1 22 d_W_exit_1 rfl (fun _ => ?_) (fun _ => ?_)
  · exact t_W_exit_22 X s _  (lv_sub hl [] rfl)
  · refine gg_iload_n X 4 d_W_exit_4 rfl (lv_at hl 1 rfl) ?_
    refine gg_aload_n X 5 d_W_exit_5 rfl (lv_at hl 0 rfl) ?_
    refine gg_get_W_exits X 6 (Or.inl (List.mem_cons_of_mem _ w_85)) d_W_exit_6 ?_
    refine gg_len_EXI X 9 d_W_exit_9 ?_
    refine gg_icmp_ge X 10 22 d_W_exit_10 rfl (fun _ => ?_) (fun _ => ?_)
    · exact t_W_exit_22 X s _  (lv_sub hl [] rfl)
    · refine gg_aload_n X 13 d_W_exit_13 rfl (lv_at hl 0 rfl) ?_
      refine gg_get_W_exits X 14 (Or.inl (List.mem_cons_of_mem _ w_85)) d_W_exit_14 ?_
      refine gg_iload_n X 17 d_W_exit_17 rfl (lv_at hl 1 rfl) ?_
      refine gg_ald_EXI X 18 d_W_exit_18 ?_
      refine gg_goto X 19 23 d_W_exit_19 rfl ?_
      exact gg_iret X 23 d_W_exit_23
theorem M_W_exit (l : Launch) (D : va_G) (dI : Nat → ClassId) (ad : Nat → Nat) (s : eS) (a1 : Int32)  {r : Int32} {s' : eS} (h : f_W_exit a1 s = some (r, s')) (sz : Nat) : Met l y_W_exit (Cond.code y_W_exit prog_1_method_21_code 2 (some .int) :: WS) rm_W_exit (Px (wE dI ad) D vwCl (tyE dI) nwE sz s [.ref (ad 0), .int a1]) (Qx rvI (wE dI ad) D vwCl (tyE dI) (va_A ((wE dI ad) s) sz) r s') 0 0 (va_A ((wE dI ad) s) sz) :=
  met_of [.ref (ad 0), .int a1] (by decide) rfl rfl (Nat.le_of_ble_eq_true rfl) h (fun p e s0 m args below meth c A ls X hl => t_W_exit X a1 s ls  hl)
