set_option maxHeartbeats 4000000 in
set_option maxRecDepth 100000 in
theorem t_V_threadCount_4 {p : Program} {l : Launch} {e : Env} {s0 : State} {m : MethodId} {args : Array Value} {below : List Frame} {meth : Method} {c : Code} {D : va_G} {A : Nat → Prop} {dI : Nat → ClassId} {ad : Nat → Nat} (X : CX p s0 m args meth c D vwCl (tyE dI) nwE A prog_3_method_4_code 3 (some .int) (Cond.code y_V_threadCount prog_3_method_4_code 3 (some .int) :: WS) R_V) : ∀ (fl : Nat) (m0 : Nat) (x1 : Int32) (x2 : Int32) (s : eS) (ls : Array Slot), m0 < 3 → lv_has ls 3 [(0, .ref (ad (5 + m0))), (1, .int x1), (2, .int x2)] → GG p l e rm_V_threadCount s0 m args below meth c D vwCl (tyE dI) A (wE dI ad) 0 0 (QM below args s0 D vwCl (tyE dI) A (wE dI ad) rvI) (f_V_threadCount_4 fl m0 x1 x2 s) (F0 m 4 ls []) s := by
  intro fl
  induction fl with
  | zero =>
    intro m0 x1 x2 s ls hm0 hl
    rw [f_V_threadCount_4]
    exact gg_none
  | succ fl ih =>
    intro m0 x1 x2 s ls hm0 hl
    rw [f_V_threadCount_4]
    refine gg_iload_n X 4 d_V_threadCount_4 rfl (lv_at hl 2 rfl) ?_
    refine gg_iconst X 5 (2 : Int32) d_V_threadCount_5 (by decide) ?_
    refine gg_icmp_ge X 6 30 d_V_threadCount_6 rfl (fun _ => ?_) (fun _ => ?_)
    · refine gg_iload_n X 30 d_V_threadCount_30 rfl (lv_at hl 1 rfl) ?_
      exact gg_iret X 31 d_V_threadCount_31
    · refine gg_aload_n X 9 d_V_threadCount_9 rfl (lv_at hl 0 rfl) ?_
      refine gg_get_V_threads X 10 hm0 (Or.inl (List.mem_cons_of_mem _ w_61)) d_V_threadCount_10 ?_
      refine gg_iload_n X 13 d_V_threadCount_13 rfl (lv_at hl 2 rfl) ?_
      refine gg_ald_TA X 14 hm0 d_V_threadCount_14 (fun hi1 => ?_)
      refine gg_get_T_state X 15 (ixb2 hm0 (ixb hi1)) (Or.inr ⟨_, nw_5⟩) d_V_threadCount_15 ?_
      refine gg_if_eq X 18 24 d_V_threadCount_18 rfl (fun _ => ?_) (fun _ => ?_)
      · refine gg_iinc X 24 (k := 2) (1 : Int32) (fun v2 => [(2, .int v2), (0, .ref (ad (5 + m0))), (1, .int x1)]) d_V_threadCount_24 hl rfl (by decide) (by decide) (fun _ => rfl) (fun v2 ls hl => ?_)
        refine gg_goto X 27 4 d_V_threadCount_27 rfl ?_
        exact ih m0 x1 v2 s _ hm0 (lv_sub hl [1, 2, 0] rfl)
      · refine gg_iinc X 21 (k := 1) (1 : Int32) (fun v3 => [(1, .int v3), (0, .ref (ad (5 + m0))), (2, .int x2)]) d_V_threadCount_21 hl rfl (by decide) (by decide) (fun _ => rfl) (fun v3 ls hl => ?_)
        refine gg_iinc X 24 (k := 2) (1 : Int32) (fun v4 => [(2, .int v4), (1, .int v3), (0, .ref (ad (5 + m0)))]) d_V_threadCount_24 hl rfl (by decide) (by decide) (fun _ => rfl) (fun v4 ls hl => ?_)
        refine gg_goto X 27 4 d_V_threadCount_27 rfl ?_
        exact ih m0 v3 v4 s _ hm0 (lv_sub hl [2, 1, 0] rfl)
set_option maxHeartbeats 4000000 in
set_option maxRecDepth 100000 in
theorem t_V_threadCount {p : Program} {l : Launch} {e : Env} {s0 : State} {m : MethodId} {args : Array Value} {below : List Frame} {meth : Method} {c : Code} {D : va_G} {A : Nat → Prop} {dI : Nat → ClassId} {ad : Nat → Nat} (X : CX p s0 m args meth c D vwCl (tyE dI) nwE A prog_3_method_4_code 3 (some .int) (Cond.code y_V_threadCount prog_3_method_4_code 3 (some .int) :: WS) R_V) (n0 : Nat) (s : eS) (ls : Array Slot) (hb0 : n0 < 3) (hl : lv_has ls 3 [(0, .ref (ad (5 + n0)))]) : GG p l e rm_V_threadCount s0 m args below meth c D vwCl (tyE dI) A (wE dI ad) 0 0 (QM below args s0 D vwCl (tyE dI) A (wE dI ad) rvI) (f_V_threadCount n0 s) (F0 m 0 ls []) s := by
  unfold f_V_threadCount
  refine gg_iconst X 0 (0 : Int32) d_V_threadCount_0 (by decide) ?_
  refine gg_istore_n X 1 (fun v1 => [(1, .int v1), (0, .ref (ad (5 + n0)))]) d_V_threadCount_1 rfl hl (by decide) (fun _ => rfl) (fun v1 ls hl => ?_)
  refine gg_iconst X 2 (0 : Int32) d_V_threadCount_2 (by decide) ?_
  refine gg_istore_n X 3 (fun v2 => [(2, .int v2), (1, .int v1), (0, .ref (ad (5 + n0)))]) d_V_threadCount_3 rfl hl (by decide) (fun _ => rfl) (fun v2 ls hl => ?_)
  exact t_V_threadCount_4 X fu n0 v1 v2 s _ hb0 (lv_sub hl [2, 1, 0] rfl)
theorem M_V_threadCount (l : Launch) (D : va_G) (dI : Nat → ClassId) (ad : Nat → Nat) (s : eS) (n0 : Nat) (hb0 : n0 < 3) {r : Int32} {s' : eS} (h : f_V_threadCount n0 s = some (r, s')) (sz : Nat) : Met l y_V_threadCount (Cond.code y_V_threadCount prog_3_method_4_code 3 (some .int) :: WS) rm_V_threadCount (Px (wE dI ad) D vwCl (tyE dI) nwE sz s [.ref (ad (5 + n0))]) (Qx rvI (wE dI ad) D vwCl (tyE dI) (va_A ((wE dI ad) s) sz) r s') 0 0 (va_A ((wE dI ad) s) sz) :=
  met_of [.ref (ad (5 + n0))] (by decide) rfl rfl (Nat.le_of_ble_eq_true rfl) h (fun p e s0 m args below meth c A ls X hl => t_V_threadCount X n0 s ls hb0 hl)
set_option maxHeartbeats 4000000 in
set_option maxRecDepth 100000 in
theorem t_W_addThread_14 {p : Program} {l : Launch} {e : Env} {s0 : State} {m : MethodId} {args : Array Value} {below : List Frame} {meth : Method} {c : Code} {D : va_G} {A : Nat → Prop} {dI : Nat → ClassId} {ad : Nat → Nat} (X : CX p s0 m args meth c D vwCl (tyE dI) nwE A prog_1_method_44_code 5 (some .int) (Cond.code y_W_addThread prog_1_method_44_code 5 (some .int) :: WS) R_W)  (s : eS) (ls : Array Slot)  (hl : lv_has ls 5 []) : GG p l e rm_W_addThread s0 m args below meth c D vwCl (tyE dI) A (wE dI ad) 0 0 (QM below args s0 D vwCl (tyE dI) A (wE dI ad) rvI) (f_W_addThread_14 s) (F0 m 14 ls []) s := by
  unfold f_W_addThread_14
  refine gg_bipush X 14 (-2 : Int32) d_W_addThread_14 (by decide) ?_
  exact gg_iret X 16 d_W_addThread_16
set_option maxHeartbeats 4000000 in
set_option maxRecDepth 100000 in
theorem t_W_addThread {p : Program} {l : Launch} {e : Env} {s0 : State} {m : MethodId} {args : Array Value} {below : List Frame} {meth : Method} {c : Code} {D : va_G} {A : Nat → Prop} {dI : Nat → ClassId} {ad : Nat → Nat} (X : CX p s0 m args meth c D vwCl (tyE dI) nwE A prog_1_method_44_code 5 (some .int) (Cond.code y_W_addThread prog_1_method_44_code 5 (some .int) :: WS) R_W) (a1 : Int32) (a2 : Int32) (s : eS) (ls : Array Slot)  (hl : lv_has ls 5 [(0, .ref (ad 0)), (1, .int a1), (2, .int a2)]) : GG p l e rm_W_addThread s0 m args below meth c D vwCl (tyE dI) A (wE dI ad) 0 0 (QM below args s0 D vwCl (tyE dI) A (wE dI ad) rvI) (f_W_addThread a1 a2 s) (F0 m 0 ls []) s := by
  unfold f_W_addThread
  refine gg_iload_n X 0 d_W_addThread_0 rfl (lv_at hl 1 rfl) ?_
  refine gg_callS X 1 nwOk_E [.int a1] [] (fun _ _ h sz => M_W_isEnclave l D dI ad _ a1  h sz) (cwS 1 X.1.2.2.2.2 (gwS w_194 w_195 w_1 w_196) rfl rfl rfl (by decide +kernel) ⟨by decide, by decide⟩) rfl hl.1 rfl (Nat.le_of_ble_eq_true rfl) ⟨Nat.zero_le _, Nat.zero_le _⟩ d_W_addThread_1 (fun r1 s2 ho3 => ?_)
  refine gg_show_i ?_
  refine gg_if_eq X 4 14 d_W_addThread_4 rfl (fun _ => ?_) (fun _ => ?_)
  · exact t_W_addThread_14 X s2 _  (lv_sub hl [] rfl)
  · refine gg_iload_n X 7 d_W_addThread_7 rfl (lv_at hl 2 rfl) ?_
    refine gg_callS X 8 nwOk_E [.int a2] [] (fun _ _ h sz => M_W_isAddress l D dI ad _ a2  h sz) (cwS 1 X.1.2.2.2.2 (gwS w_119 w_120 w_1 w_121) rfl rfl rfl (by decide +kernel) ⟨by decide, by decide⟩) rfl hl.1 rfl (Nat.le_of_ble_eq_true rfl) ⟨Nat.zero_le _, Nat.zero_le _⟩ d_W_addThread_8 (fun r4 s5 ho6 => ?_)
    refine gg_show_i ?_
    refine gg_if_ne X 11 17 d_W_addThread_11 rfl (fun _ => ?_) (fun _ => ?_)
    · refine gg_aload_n X 17 d_W_addThread_17 rfl (lv_at hl 0 rfl) ?_
      refine gg_get_W_enclaves X 18 (Or.inl (List.mem_cons_of_mem _ w_83)) d_W_addThread_18 ?_
      refine gg_iload_n X 21 d_W_addThread_21 rfl (lv_at hl 1 rfl) ?_
      refine gg_ald_ENA X 22 d_W_addThread_22 (fun hi7 => ?_)
      refine gg_astore_n X 23 3 (fun t8 => [(3, .ref (ad (5 + t8))), (0, .ref (ad 0)), (1, .int a1), (2, .int a2)]) d_W_addThread_23 rfl hl (by decide) (fun _ => rfl) (ixb hi7) (fun t8 ls ht9 hl => ?_)
      refine gg_aload_n X 24 d_W_addThread_24 rfl (lv_at hl 0 rfl) ?_
      refine gg_get_V_state X 25 ht9 (Or.inr ⟨_, nw_9⟩) d_W_addThread_25 ?_
      refine gg_iconst X 28 (1 : Int32) d_W_addThread_28 (by decide) ?_
      refine gg_icmp_eq X 29 35 d_W_addThread_29 rfl (fun _ => ?_) (fun _ => ?_)
      · refine gg_aload_n X 35 d_W_addThread_35 rfl (lv_at hl 1 rfl) ?_
        refine gg_get_W_kinds X 36 (Or.inl (List.mem_cons_of_mem _ w_82)) d_W_addThread_36 ?_
        refine gg_iload_n X 39 d_W_addThread_39 rfl (lv_at hl 3 rfl) ?_
        refine gg_bipush X 40 (16 : Int32) d_W_addThread_40 (by decide) ?_
        refine gg_idivk X 42 d_W_addThread_42 (by decide) ?_
        refine gg_ald_KIN X 43 d_W_addThread_43 ?_
        refine gg_iconst X 44 (2 : Int32) d_W_addThread_44 (by decide) ?_
        refine gg_iload_n X 45 d_W_addThread_45 rfl (lv_at hl 2 rfl) ?_
        refine gg_iadd X 46 d_W_addThread_46 ?_
        refine gg_icmp_eq X 47 53 d_W_addThread_47 rfl (fun _ => ?_) (fun _ => ?_)
        · refine gg_aload_n X 53 d_W_addThread_53 rfl (lv_at hl 0 rfl) ?_
          refine gg_callVN X 54 nwOk_E [] [] (fun _ _ h sz => M_V_threadCount l D dI ad _ t8 ht9 h sz) (⟨va_cnB 0 X.1.2.2.2.2 (gwB w_204) rfl rfl rfl (X.2.2.2.2.2 _ nw_18) (X.1.2.2.2.2 _ (List.mem_cons_of_mem _ w_2)) (by decide +kernel) ⟨by decide, by decide⟩, X.1.2.2.2.2 _ (List.mem_cons_of_mem _ w_203), X.1.2.2.2.2 _ (List.mem_cons_of_mem _ ws_V_threadCount)⟩) (he_E_Enc ht9) rfl rfl hl.1 rfl (Nat.le_of_ble_eq_true rfl) ⟨Nat.zero_le _, Nat.zero_le _⟩ d_W_addThread_54 (fun r10 s11 ho12 => ?_)
          refine gg_show_i ?_
          refine gg_istore X 57 (fun v13 => [(4, .int v13), (3, .ref (ad (5 + t8))), (0, .ref (ad 0)), (1, .int a1), (2, .int a2)]) d_W_addThread_57 hl (by decide) (fun _ => rfl) (fun v13 ls hl => ?_)
          refine gg_iload X 59 d_W_addThread_59 (lv_at hl 0 rfl) ?_
          refine gg_iconst X 61 (2 : Int32) d_W_addThread_61 (by decide) ?_
          refine gg_icmp_lt X 62 68 d_W_addThread_62 rfl (fun _ => ?_) (fun _ => ?_)
          · refine gg_aload_n X 68 d_W_addThread_68 rfl (lv_at hl 1 rfl) ?_
            refine gg_get_V_threads X 69 ht9 (Or.inr ⟨_, nw_8⟩) d_W_addThread_69 ?_
            refine gg_iload X 72 d_W_addThread_72 (lv_at hl 0 rfl) ?_
            refine gg_ald_TA X 74 ht9 d_W_addThread_74 (fun hi14 => ?_)
            refine gg_iconst X 75 (1 : Int32) d_W_addThread_75 (by decide) ?_
            refine gg_put_T_state X 76 (ixb2 ht9 (ixb hi14)) (Or.inr ⟨_, nw_6⟩) d_W_addThread_76 (fun s15 => ?_)
            refine gg_aload_n X 79 d_W_addThread_79 rfl (lv_at hl 1 rfl) ?_
            refine gg_get_V_threads X 80 ht9 (Or.inr ⟨_, nw_8⟩) d_W_addThread_80 ?_
            refine gg_iload X 83 d_W_addThread_83 (lv_at hl 0 rfl) ?_
            refine gg_ald_TA X 85 ht9 d_W_addThread_85 (fun hi16 => ?_)
            refine gg_iload_n X 86 d_W_addThread_86 rfl (lv_at hl 4 rfl) ?_
            refine gg_put_T_entry X 87 (ixb2 ht9 (ixb hi16)) (Or.inr ⟨_, nw_7⟩) d_W_addThread_87 (fun s17 => ?_)
            refine gg_aload_n X 90 d_W_addThread_90 rfl (lv_at hl 1 rfl) ?_
            refine gg_iconst X 91 (3 : Int32) d_W_addThread_91 (by decide) ?_
            refine gg_callVN X 92 nwOk_E [.int (3 : Int32)] [] (fun _ _ h sz => M_V_add l D dI ad _ t8 (3 : Int32) ht9 h sz) (⟨va_cnB 1 X.1.2.2.2.2 (gwB w_185) rfl rfl rfl (X.2.2.2.2.2 _ nw_16) (X.1.2.2.2.2 _ (List.mem_cons_of_mem _ w_2)) (by decide +kernel) ⟨by decide, by decide⟩, X.1.2.2.2.2 _ (List.mem_cons_of_mem _ w_184), X.1.2.2.2.2 _ (List.mem_cons_of_mem _ ws_V_add)⟩) (he_E_Enc ht9) rfl rfl hl.1 rfl (Nat.le_of_ble_eq_true rfl) ⟨Nat.zero_le _, Nat.zero_le _⟩ d_W_addThread_92 (fun r18 s19 ho20 => ?_)
            refine gg_show_v ?_
            refine gg_aload_n X 95 d_W_addThread_95 rfl (lv_at hl 1 rfl) ?_
            refine gg_iload_n X 96 d_W_addThread_96 rfl (lv_at hl 4 rfl) ?_
            refine gg_callVN X 97 nwOk_E [.int a2] [] (fun _ _ h sz => M_V_add l D dI ad _ t8 a2 ht9 h sz) (⟨va_cnB 1 X.1.2.2.2.2 (gwB w_185) rfl rfl rfl (X.2.2.2.2.2 _ nw_16) (X.1.2.2.2.2 _ (List.mem_cons_of_mem _ w_2)) (by decide +kernel) ⟨by decide, by decide⟩, X.1.2.2.2.2 _ (List.mem_cons_of_mem _ w_184), X.1.2.2.2.2 _ (List.mem_cons_of_mem _ ws_V_add)⟩) (he_E_Enc ht9) rfl rfl hl.1 rfl (Nat.le_of_ble_eq_true rfl) ⟨Nat.zero_le _, Nat.zero_le _⟩ d_W_addThread_97 (fun r21 s22 ho23 => ?_)
            refine gg_show_v ?_
            refine gg_iload X 100 d_W_addThread_100 (lv_at hl 0 rfl) ?_
            exact gg_iret X 102 d_W_addThread_102
          · refine gg_bipush X 65 (-5 : Int32) d_W_addThread_65 (by decide) ?_
            exact gg_iret X 67 d_W_addThread_67
        · refine gg_bipush X 50 (-4 : Int32) d_W_addThread_50 (by decide) ?_
          exact gg_iret X 52 d_W_addThread_52
      · refine gg_bipush X 32 (-3 : Int32) d_W_addThread_32 (by decide) ?_
        exact gg_iret X 34 d_W_addThread_34
    · exact t_W_addThread_14 X s5 _  (lv_sub hl [] rfl)
theorem M_W_addThread (l : Launch) (D : va_G) (dI : Nat → ClassId) (ad : Nat → Nat) (s : eS) (a1 : Int32) (a2 : Int32)  {r : Int32} {s' : eS} (h : f_W_addThread a1 a2 s = some (r, s')) (sz : Nat) : Met l y_W_addThread (Cond.code y_W_addThread prog_1_method_44_code 5 (some .int) :: WS) rm_W_addThread (Px (wE dI ad) D vwCl (tyE dI) nwE sz s [.ref (ad 0), .int a1, .int a2]) (Qx rvI (wE dI ad) D vwCl (tyE dI) (va_A ((wE dI ad) s) sz) r s') 0 0 (va_A ((wE dI ad) s) sz) :=
  met_of [.ref (ad 0), .int a1, .int a2] (by decide) rfl rfl (Nat.le_of_ble_eq_true rfl) h (fun p e s0 m args below meth c A ls X hl => t_W_addThread X a1 a2 s ls  hl)
set_option maxHeartbeats 4000000 in
set_option maxRecDepth 100000 in
theorem t_W_seal_32 {p : Program} {l : Launch} {e : Env} {s0 : State} {m : MethodId} {args : Array Value} {below : List Frame} {meth : Method} {c : Code} {D : va_G} {A : Nat → Prop} {dI : Nat → ClassId} {ad : Nat → Nat} (X : CX p s0 m args meth c D vwCl (tyE dI) nwE A prog_1_method_45_code 3 (some .int) (Cond.code y_W_seal prog_1_method_45_code 3 (some .int) :: WS) R_W)  (s : eS) (ls : Array Slot)  (hl : lv_has ls 3 []) : GG p l e rm_W_seal s0 m args below meth c D vwCl (tyE dI) A (wE dI ad) 0 0 (QM below args s0 D vwCl (tyE dI) A (wE dI ad) rvI) (f_W_seal_32 s) (F0 m 32 ls []) s := by
  unfold f_W_seal_32
  refine gg_bipush X 32 (-3 : Int32) d_W_seal_32 (by decide) ?_
  exact gg_iret X 34 d_W_seal_34
set_option maxHeartbeats 4000000 in
set_option maxRecDepth 100000 in
theorem t_W_seal {p : Program} {l : Launch} {e : Env} {s0 : State} {m : MethodId} {args : Array Value} {below : List Frame} {meth : Method} {c : Code} {D : va_G} {A : Nat → Prop} {dI : Nat → ClassId} {ad : Nat → Nat} (X : CX p s0 m args meth c D vwCl (tyE dI) nwE A prog_1_method_45_code 3 (some .int) (Cond.code y_W_seal prog_1_method_45_code 3 (some .int) :: WS) R_W) (a1 : Int32) (s : eS) (ls : Array Slot)  (hl : lv_has ls 3 [(0, .ref (ad 0)), (1, .int a1)]) : GG p l e rm_W_seal s0 m args below meth c D vwCl (tyE dI) A (wE dI ad) 0 0 (QM below args s0 D vwCl (tyE dI) A (wE dI ad) rvI) (f_W_seal a1 s) (F0 m 0 ls []) s := by
  unfold f_W_seal
  refine gg_iload_n X 0 d_W_seal_0 rfl (lv_at hl 1 rfl) ?_
  refine gg_callS X 1 nwOk_E [.int a1] [] (fun _ _ h sz => M_W_isEnclave l D dI ad _ a1  h sz) (cwS 1 X.1.2.2.2.2 (gwS w_194 w_195 w_1 w_196) rfl rfl rfl (by decide +kernel) ⟨by decide, by decide⟩) rfl hl.1 rfl (Nat.le_of_ble_eq_true rfl) ⟨Nat.zero_le _, Nat.zero_le _⟩ d_W_seal_1 (fun r1 s2 ho3 => ?_)
  refine gg_show_i ?_
  refine gg_if_ne X 4 10 d_W_seal_4 rfl (fun _ => ?_) (fun _ => ?_)
  · refine gg_aload_n X 10 d_W_seal_10 rfl (lv_at hl 0 rfl) ?_
    refine gg_get_W_enclaves X 11 (Or.inl (List.mem_cons_of_mem _ w_83)) d_W_seal_11 ?_
    refine gg_iload_n X 14 d_W_seal_14 rfl (lv_at hl 1 rfl) ?_
    refine gg_ald_ENA X 15 d_W_seal_15 (fun hi4 => ?_)
    refine gg_astore_n X 16 3 (fun t5 => [(2, .ref (ad (5 + t5))), (0, .ref (ad 0)), (1, .int a1)]) d_W_seal_16 rfl hl (by decide) (fun _ => rfl) (ixb hi4) (fun t5 ls ht6 hl => ?_)
    refine gg_aload_n X 17 d_W_seal_17 rfl (lv_at hl 0 rfl) ?_
    refine gg_get_V_state X 18 ht6 (Or.inr ⟨_, nw_9⟩) d_W_seal_18 ?_
    refine gg_iconst X 21 (1 : Int32) d_W_seal_21 (by decide) ?_
    refine gg_icmp_ne X 22 32 d_W_seal_22 rfl (fun _ => ?_) (fun _ => ?_)
    · exact t_W_seal_32 X s2 _  (lv_sub hl [] rfl)
    · refine gg_aload_n X 25 d_W_seal_25 rfl (lv_at hl 0 rfl) ?_
      refine gg_callVN X 26 nwOk_E [] [] (fun _ _ h sz => M_V_threadCount l D dI ad _ t5 ht6 h sz) (⟨va_cnB 0 X.1.2.2.2.2 (gwB w_204) rfl rfl rfl (X.2.2.2.2.2 _ nw_18) (X.1.2.2.2.2 _ (List.mem_cons_of_mem _ w_2)) (by decide +kernel) ⟨by decide, by decide⟩, X.1.2.2.2.2 _ (List.mem_cons_of_mem _ w_203), X.1.2.2.2.2 _ (List.mem_cons_of_mem _ ws_V_threadCount)⟩) (he_E_Enc ht6) rfl rfl hl.1 rfl (Nat.le_of_ble_eq_true rfl) ⟨Nat.zero_le _, Nat.zero_le _⟩ d_W_seal_26 (fun r7 s8 ho9 => ?_)
      refine gg_show_i ?_
      refine gg_if_ne X 29 35 d_W_seal_29 rfl (fun _ => ?_) (fun _ => ?_)
      · refine gg_aload_n X 35 d_W_seal_35 rfl (lv_at hl 0 rfl) ?_
        refine gg_iconst X 36 (2 : Int32) d_W_seal_36 (by decide) ?_
        refine gg_put_V_state X 37 ht6 (Or.inr ⟨_, nw_9⟩) d_W_seal_37 (fun s10 => ?_)
        refine gg_aload_n X 40 d_W_seal_40 rfl (lv_at hl 0 rfl) ?_
        refine gg_iconst X 41 (4 : Int32) d_W_seal_41 (by decide) ?_
        refine gg_callVN X 42 nwOk_E [.int (4 : Int32)] [] (fun _ _ h sz => M_V_add l D dI ad _ t5 (4 : Int32) ht6 h sz) (⟨va_cnB 1 X.1.2.2.2.2 (gwB w_185) rfl rfl rfl (X.2.2.2.2.2 _ nw_16) (X.1.2.2.2.2 _ (List.mem_cons_of_mem _ w_2)) (by decide +kernel) ⟨by decide, by decide⟩, X.1.2.2.2.2 _ (List.mem_cons_of_mem _ w_184), X.1.2.2.2.2 _ (List.mem_cons_of_mem _ ws_V_add)⟩) (he_E_Enc ht6) rfl rfl hl.1 rfl (Nat.le_of_ble_eq_true rfl) ⟨Nat.zero_le _, Nat.zero_le _⟩ d_W_seal_42 (fun r11 s12 ho13 => ?_)
        refine gg_show_v ?_
        refine gg_iconst X 45 (0 : Int32) d_W_seal_45 (by decide) ?_
        exact gg_iret X 46 d_W_seal_46
      · exact t_W_seal_32 X s8 _  (lv_sub hl [] rfl)
  · refine gg_bipush X 7 (-2 : Int32) d_W_seal_7 (by decide) ?_
    exact gg_iret X 9 d_W_seal_9
theorem M_W_seal (l : Launch) (D : va_G) (dI : Nat → ClassId) (ad : Nat → Nat) (s : eS) (a1 : Int32)  {r : Int32} {s' : eS} (h : f_W_seal a1 s = some (r, s')) (sz : Nat) : Met l y_W_seal (Cond.code y_W_seal prog_1_method_45_code 3 (some .int) :: WS) rm_W_seal (Px (wE dI ad) D vwCl (tyE dI) nwE sz s [.ref (ad 0), .int a1]) (Qx rvI (wE dI ad) D vwCl (tyE dI) (va_A ((wE dI ad) s) sz) r s') 0 0 (va_A ((wE dI ad) s) sz) :=
  met_of [.ref (ad 0), .int a1] (by decide) rfl rfl (Nat.le_of_ble_eq_true rfl) h (fun p e s0 m args below meth c A ls X hl => t_W_seal X a1 s ls  hl)
set_option maxHeartbeats 4000000 in
set_option maxRecDepth 100000 in
theorem t_W_sharedWith_4 {p : Program} {l : Launch} {e : Env} {s0 : State} {m : MethodId} {args : Array Value} {below : List Frame} {meth : Method} {c : Code} {D : va_G} {A : Nat → Prop} {dI : Nat → ClassId} {ad : Nat → Nat} (X : CX p s0 m args meth c D vwCl (tyE dI) nwE A prog_1_method_47_code 4 (some .int) (Cond.code y_W_sharedWith prog_1_method_47_code 4 (some .int) :: WS) R_W) : ∀ (fl : Nat) (x1 : Int32) (x2 : Int32) (x3 : Int32) (s : eS) (ls : Array Slot), lv_has ls 4 [(0, .ref (ad 0)), (1, .int x1), (2, .int x2), (3, .int x3)] → GG p l e rm_W_sharedWith s0 m args below meth c D vwCl (tyE dI) A (wE dI ad) 0 0 (QM below args s0 D vwCl (tyE dI) A (wE dI ad) rvI) (f_W_sharedWith_4 fl x1 x2 x3 s) (F0 m 4 ls []) s := by
  intro fl
  induction fl with
  | zero =>
    intro x1 x2 x3 s ls hl
    rw [f_W_sharedWith_4]
    exact gg_none
  | succ fl ih =>
    intro x1 x2 x3 s ls hl
    rw [f_W_sharedWith_4]
    refine gg_iload_n X 4 d_W_sharedWith_4 rfl (lv_at hl 3 rfl) ?_
    refine gg_bipush X 5 (16 : Int32) d_W_sharedWith_5 (by decide) ?_
    refine gg_icmp_ge X 7 31 d_W_sharedWith_7 rfl (fun _ => ?_) (fun _ => ?_)
    · refine gg_iload_n X 31 d_W_sharedWith_31 rfl (lv_at hl 2 rfl) ?_
      exact gg_iret X 32 d_W_sharedWith_32
    · refine gg_aload_n X 10 d_W_sharedWith_10 rfl (lv_at hl 0 rfl) ?_
      refine gg_get_W_kinds X 11 (Or.inl (List.mem_cons_of_mem _ w_82)) d_W_sharedWith_11 ?_
      refine gg_iload_n X 14 d_W_sharedWith_14 rfl (lv_at hl 3 rfl) ?_
      refine gg_ald_KIN X 15 d_W_sharedWith_15 ?_
      refine gg_iconst X 16 (5 : Int32) d_W_sharedWith_16 (by decide) ?_
      refine gg_iload_n X 17 d_W_sharedWith_17 rfl (lv_at hl 1 rfl) ?_
      refine gg_iadd X 18 d_W_sharedWith_18 ?_
      refine gg_icmp_ne X 19 25 d_W_sharedWith_19 rfl (fun _ => ?_) (fun _ => ?_)
      · refine gg_iinc X 25 (k := 3) (1 : Int32) (fun v1 => [(3, .int v1), (0, .ref (ad 0)), (1, .int x1), (2, .int x2)]) d_W_sharedWith_25 hl rfl (by decide) (by decide) (fun _ => rfl) (fun v1 ls hl => ?_)
        refine gg_goto X 28 4 d_W_sharedWith_28 rfl ?_
        exact ih x1 x2 v1 s _  (lv_sub hl [1, 2, 3, 0] rfl)
      · refine gg_iinc X 22 (k := 2) (1 : Int32) (fun v2 => [(2, .int v2), (0, .ref (ad 0)), (1, .int x1), (3, .int x3)]) d_W_sharedWith_22 hl rfl (by decide) (by decide) (fun _ => rfl) (fun v2 ls hl => ?_)
        refine gg_iinc X 25 (k := 3) (1 : Int32) (fun v3 => [(3, .int v3), (2, .int v2), (0, .ref (ad 0)), (1, .int x1)]) d_W_sharedWith_25 hl rfl (by decide) (by decide) (fun _ => rfl) (fun v3 ls hl => ?_)
        refine gg_goto X 28 4 d_W_sharedWith_28 rfl ?_
        exact ih x1 v2 v3 s _  (lv_sub hl [2, 3, 1, 0] rfl)
set_option maxHeartbeats 4000000 in
set_option maxRecDepth 100000 in
theorem t_W_sharedWith {p : Program} {l : Launch} {e : Env} {s0 : State} {m : MethodId} {args : Array Value} {below : List Frame} {meth : Method} {c : Code} {D : va_G} {A : Nat → Prop} {dI : Nat → ClassId} {ad : Nat → Nat} (X : CX p s0 m args meth c D vwCl (tyE dI) nwE A prog_1_method_47_code 4 (some .int) (Cond.code y_W_sharedWith prog_1_method_47_code 4 (some .int) :: WS) R_W) (a1 : Int32) (s : eS) (ls : Array Slot)  (hl : lv_has ls 4 [(0, .ref (ad 0)), (1, .int a1)]) : GG p l e rm_W_sharedWith s0 m args below meth c D vwCl (tyE dI) A (wE dI ad) 0 0 (QM below args s0 D vwCl (tyE dI) A (wE dI ad) rvI) (f_W_sharedWith a1 s) (F0 m 0 ls []) s := by
  unfold f_W_sharedWith
  refine gg_iconst X 0 (0 : Int32) d_W_sharedWith_0 (by decide) ?_
  refine gg_istore_n X 1 (fun v1 => [(2, .int v1), (0, .ref (ad 0)), (1, .int a1)]) d_W_sharedWith_1 rfl hl (by decide) (fun _ => rfl) (fun v1 ls hl => ?_)
  refine gg_iconst X 2 (0 : Int32) d_W_sharedWith_2 (by decide) ?_
  refine gg_istore_n X 3 (fun v2 => [(3, .int v2), (2, .int v1), (0, .ref (ad 0)), (1, .int a1)]) d_W_sharedWith_3 rfl hl (by decide) (fun _ => rfl) (fun v2 ls hl => ?_)
  exact t_W_sharedWith_4 X fu a1 v1 v2 s _  (lv_sub hl [2, 3, 1, 0] rfl)
theorem M_W_sharedWith (l : Launch) (D : va_G) (dI : Nat → ClassId) (ad : Nat → Nat) (s : eS) (a1 : Int32)  {r : Int32} {s' : eS} (h : f_W_sharedWith a1 s = some (r, s')) (sz : Nat) : Met l y_W_sharedWith (Cond.code y_W_sharedWith prog_1_method_47_code 4 (some .int) :: WS) rm_W_sharedWith (Px (wE dI ad) D vwCl (tyE dI) nwE sz s [.ref (ad 0), .int a1]) (Qx rvI (wE dI ad) D vwCl (tyE dI) (va_A ((wE dI ad) s) sz) r s') 0 0 (va_A ((wE dI ad) s) sz) :=
  met_of [.ref (ad 0), .int a1] (by decide) rfl rfl (Nat.le_of_ble_eq_true rfl) h (fun p e s0 m args below meth c A ls X hl => t_W_sharedWith X a1 s ls  hl)
set_option maxHeartbeats 4000000 in
set_option maxRecDepth 100000 in
theorem t_W_share_14 {p : Program} {l : Launch} {e : Env} {s0 : State} {m : MethodId} {args : Array Value} {below : List Frame} {meth : Method} {c : Code} {D : va_G} {A : Nat → Prop} {dI : Nat → ClassId} {ad : Nat → Nat} (X : CX p s0 m args meth c D vwCl (tyE dI) nwE A prog_1_method_46_code 3 (some .int) (Cond.code y_W_share prog_1_method_46_code 3 (some .int) :: WS) R_W)  (s : eS) (ls : Array Slot)  (hl : lv_has ls 3 []) : GG p l e rm_W_share s0 m args below meth c D vwCl (tyE dI) A (wE dI ad) 0 0 (QM below args s0 D vwCl (tyE dI) A (wE dI ad) rvI) (f_W_share_14 s) (F0 m 14 ls []) s := by
  unfold f_W_share_14
  refine gg_bipush X 14 (-2 : Int32) d_W_share_14 (by decide) ?_
  exact gg_iret X 16 d_W_share_16
set_option maxHeartbeats 4000000 in
set_option maxRecDepth 100000 in
theorem t_W_share {p : Program} {l : Launch} {e : Env} {s0 : State} {m : MethodId} {args : Array Value} {below : List Frame} {meth : Method} {c : Code} {D : va_G} {A : Nat → Prop} {dI : Nat → ClassId} {ad : Nat → Nat} (X : CX p s0 m args meth c D vwCl (tyE dI) nwE A prog_1_method_46_code 3 (some .int) (Cond.code y_W_share prog_1_method_46_code 3 (some .int) :: WS) R_W) (a1 : Int32) (a2 : Int32) (s : eS) (ls : Array Slot)  (hl : lv_has ls 3 [(0, .ref (ad 0)), (1, .int a1), (2, .int a2)]) : GG p l e rm_W_share s0 m args below meth c D vwCl (tyE dI) A (wE dI ad) 0 0 (QM below args s0 D vwCl (tyE dI) A (wE dI ad) rvI) (f_W_share a1 a2 s) (F0 m 0 ls []) s := by
  unfold f_W_share
  refine gg_iload_n X 0 d_W_share_0 rfl (lv_at hl 1 rfl) ?_
  refine gg_callS X 1 nwOk_E [.int a1] [] (fun _ _ h sz => M_W_isEnclave l D dI ad _ a1  h sz) (cwS 1 X.1.2.2.2.2 (gwS w_194 w_195 w_1 w_196) rfl rfl rfl (by decide +kernel) ⟨by decide, by decide⟩) rfl hl.1 rfl (Nat.le_of_ble_eq_true rfl) ⟨Nat.zero_le _, Nat.zero_le _⟩ d_W_share_1 (fun r1 s2 ho3 => ?_)
  refine gg_show_i ?_
  refine gg_if_eq X 4 14 d_W_share_4 rfl (fun _ => ?_) (fun _ => ?_)
  · exact t_W_share_14 X s2 _  (lv_sub hl [] rfl)
  · refine gg_iload_n X 7 d_W_share_7 rfl (lv_at hl 2 rfl) ?_
    refine gg_callS X 8 nwOk_E [.int a2] [] (fun _ _ h sz => M_W_isRegion l D dI ad _ a2  h sz) (cwS 1 X.1.2.2.2.2 (gwS w_170 w_171 w_1 w_172) rfl rfl rfl (by decide +kernel) ⟨by decide, by decide⟩) rfl hl.1 rfl (Nat.le_of_ble_eq_true rfl) ⟨Nat.zero_le _, Nat.zero_le _⟩ d_W_share_8 (fun r4 s5 ho6 => ?_)
    refine gg_show_i ?_
    refine gg_if_ne X 11 17 d_W_share_11 rfl (fun _ => ?_) (fun _ => ?_)
    · refine gg_aload_n X 17 d_W_share_17 rfl (lv_at hl 0 rfl) ?_
      refine gg_get_W_enclaves X 18 (Or.inl (List.mem_cons_of_mem _ w_83)) d_W_share_18 ?_
      refine gg_iload_n X 21 d_W_share_21 rfl (lv_at hl 1 rfl) ?_
      refine gg_ald_ENA X 22 d_W_share_22 (fun hi7 => ?_)
      refine gg_get_V_state X 23 (ixb hi7) (Or.inr ⟨_, nw_9⟩) d_W_share_23 ?_
      refine gg_if_ne X 26 32 d_W_share_26 rfl (fun _ => ?_) (fun _ => ?_)
      · refine gg_aload_n X 32 d_W_share_32 rfl (lv_at hl 0 rfl) ?_
        refine gg_get_W_kinds X 33 (Or.inl (List.mem_cons_of_mem _ w_82)) d_W_share_33 ?_
        refine gg_iload_n X 36 d_W_share_36 rfl (lv_at hl 2 rfl) ?_
        refine gg_ald_KIN X 37 d_W_share_37 ?_
        refine gg_iconst X 38 (1 : Int32) d_W_share_38 (by decide) ?_
        refine gg_icmp_eq X 39 45 d_W_share_39 rfl (fun _ => ?_) (fun _ => ?_)
        · refine gg_aload_n X 45 d_W_share_45 rfl (lv_at hl 0 rfl) ?_
          refine gg_iload_n X 46 d_W_share_46 rfl (lv_at hl 1 rfl) ?_
          refine gg_callV X 47 nwOk_E [.int a1] [] (fun _ _ h sz => M_W_sharedWith l D dI ad _ a1  h sz) (cwV 1 X.1.2.2.2.2 (gwV w_213 w_215 ws_W_sharedWith w_1 w_216) rfl rfl rfl (by decide +kernel) ⟨by decide, by decide⟩) (he_E_Main) rfl rfl hl.1 rfl (Nat.le_of_ble_eq_true rfl) ⟨Nat.zero_le _, Nat.zero_le _⟩ d_W_share_47 (fun r8 s9 ho10 => ?_)
          refine gg_show_i ?_
          refine gg_iconst X 50 (2 : Int32) d_W_share_50 (by decide) ?_
          refine gg_icmp_lt X 51 57 d_W_share_51 rfl (fun _ => ?_) (fun _ => ?_)
          · refine gg_aload_n X 57 d_W_share_57 rfl (lv_at hl 0 rfl) ?_
            refine gg_get_W_kinds X 58 (Or.inl (List.mem_cons_of_mem _ w_82)) d_W_share_58 ?_
            refine gg_iload_n X 61 d_W_share_61 rfl (lv_at hl 2 rfl) ?_
            refine gg_iconst X 62 (5 : Int32) d_W_share_62 (by decide) ?_
            refine gg_iload_n X 63 d_W_share_63 rfl (lv_at hl 1 rfl) ?_
            refine gg_iadd X 64 d_W_share_64 ?_
            refine gg_ast_KIN X 65 d_W_share_65 (fun s11 => ?_)
            refine gg_iconst X 66 (0 : Int32) d_W_share_66 (by decide) ?_
            exact gg_iret X 67 d_W_share_67
          · refine gg_bipush X 54 (-5 : Int32) d_W_share_54 (by decide) ?_
            exact gg_iret X 56 d_W_share_56
        · refine gg_bipush X 42 (-4 : Int32) d_W_share_42 (by decide) ?_
          exact gg_iret X 44 d_W_share_44
      · refine gg_bipush X 29 (-3 : Int32) d_W_share_29 (by decide) ?_
        exact gg_iret X 31 d_W_share_31
    · exact t_W_share_14 X s5 _  (lv_sub hl [] rfl)
theorem M_W_share (l : Launch) (D : va_G) (dI : Nat → ClassId) (ad : Nat → Nat) (s : eS) (a1 : Int32) (a2 : Int32)  {r : Int32} {s' : eS} (h : f_W_share a1 a2 s = some (r, s')) (sz : Nat) : Met l y_W_share (Cond.code y_W_share prog_1_method_46_code 3 (some .int) :: WS) rm_W_share (Px (wE dI ad) D vwCl (tyE dI) nwE sz s [.ref (ad 0), .int a1, .int a2]) (Qx rvI (wE dI ad) D vwCl (tyE dI) (va_A ((wE dI ad) s) sz) r s') 0 0 (va_A ((wE dI ad) s) sz) :=
  met_of [.ref (ad 0), .int a1, .int a2] (by decide) rfl rfl (Nat.le_of_ble_eq_true rfl) h (fun p e s0 m args below meth c A ls X hl => t_W_share X a1 a2 s ls  hl)
set_option maxHeartbeats 4000000 in
set_option maxRecDepth 100000 in
theorem t_W_isThread_13 {p : Program} {l : Launch} {e : Env} {s0 : State} {m : MethodId} {args : Array Value} {below : List Frame} {meth : Method} {c : Code} {D : va_G} {A : Nat → Prop} {dI : Nat → ClassId} {ad : Nat → Nat} (X : CX p s0 m args meth c D vwCl (tyE dI) nwE A prog_1_method_25_code 1 (some .boolean) (Cond.code y_W_isThread prog_1_method_25_code 1 (some .boolean) :: WS) R_W)  (s : eS) (ls : Array Slot)  (hl : lv_has ls 1 []) : GG p l e rm_W_isThread s0 m args below meth c D vwCl (tyE dI) A (wE dI ad) 0 0 (QM below args s0 D vwCl (tyE dI) A (wE dI ad) rvI) (f_W_isThread_13 s) (F0 m 13 ls []) s := by
  unfold f_W_isThread_13
  refine gg_iconst X 13 (0 : Int32) d_W_isThread_13 (by decide) ?_
  exact gg_zretk X 14 rfl d_W_isThread_14
set_option maxHeartbeats 4000000 in
set_option maxRecDepth 100000 in
theorem t_W_isThread {p : Program} {l : Launch} {e : Env} {s0 : State} {m : MethodId} {args : Array Value} {below : List Frame} {meth : Method} {c : Code} {D : va_G} {A : Nat → Prop} {dI : Nat → ClassId} {ad : Nat → Nat} (X : CX p s0 m args meth c D vwCl (tyE dI) nwE A prog_1_method_25_code 1 (some .boolean) (Cond.code y_W_isThread prog_1_method_25_code 1 (some .boolean) :: WS) R_W) (a0 : Int32) (s : eS) (ls : Array Slot)  (hl : lv_has ls 1 [(0, .int a0)]) : GG p l e rm_W_isThread s0 m args below meth c D vwCl (tyE dI) A (wE dI ad) 0 0 (QM below args s0 D vwCl (tyE dI) A (wE dI ad) rvI) (f_W_isThread a0 s) (F0 m 0 ls []) s := by
  unfold f_W_isThread
  refine gg_iload_n X 0 d_W_isThread_0 rfl (lv_at hl 0 rfl) ?_
  refine gg_if_lt X 1 13 d_W_isThread_1 rfl (fun _ => ?_) (fun _ => ?_)
  · exact t_W_isThread_13 X s _  (lv_sub hl [] rfl)
  · refine gg_iload_n X 4 d_W_isThread_4 rfl (lv_at hl 0 rfl) ?_
    refine gg_iconst X 5 (2 : Int32) d_W_isThread_5 (by decide) ?_
    refine gg_icmp_ge X 6 13 d_W_isThread_6 rfl (fun _ => ?_) (fun _ => ?_)
    · exact t_W_isThread_13 X s _  (lv_sub hl [] rfl)
    · refine gg_iconst X 9 (1 : Int32) d_W_isThread_9 (by decide) ?_
      refine gg_goto X 10 14 d_W_isThread_10 rfl ?_
      exact gg_zretk X 14 rfl d_W_isThread_14
theorem M_W_isThread (l : Launch) (D : va_G) (dI : Nat → ClassId) (ad : Nat → Nat) (s : eS) (a0 : Int32)  {r : Int32} {s' : eS} (h : f_W_isThread a0 s = some (r, s')) (sz : Nat) : Met l y_W_isThread (Cond.code y_W_isThread prog_1_method_25_code 1 (some .boolean) :: WS) rm_W_isThread (Px (wE dI ad) D vwCl (tyE dI) nwE sz s [.int a0]) (Qx rvI (wE dI ad) D vwCl (tyE dI) (va_A ((wE dI ad) s) sz) r s') 0 0 (va_A ((wE dI ad) s) sz) :=
  met_of [.int a0] (by decide) rfl rfl (Nat.le_of_ble_eq_true rfl) h (fun p e s0 m args below meth c A ls X hl => t_W_isThread X a0 s ls  hl)
set_option maxHeartbeats 4000000 in
set_option maxRecDepth 100000 in
theorem t_W_refusalToStart_14 {p : Program} {l : Launch} {e : Env} {s0 : State} {m : MethodId} {args : Array Value} {below : List Frame} {meth : Method} {c : Code} {D : va_G} {A : Nat → Prop} {dI : Nat → ClassId} {ad : Nat → Nat} (X : CX p s0 m args meth c D vwCl (tyE dI) nwE A prog_1_method_50_code 5 (some .int) (Cond.code y_W_refusalToStart prog_1_method_50_code 5 (some .int) :: WS) R_W)  (s : eS) (ls : Array Slot)  (hl : lv_has ls 5 []) : GG p l e rm_W_refusalToStart s0 m args below meth c D vwCl (tyE dI) A (wE dI ad) 0 0 (QM below args s0 D vwCl (tyE dI) A (wE dI ad) rvI) (f_W_refusalToStart_14 s) (F0 m 14 ls []) s := by
  unfold f_W_refusalToStart_14
  refine gg_bipush X 14 (-2 : Int32) d_W_refusalToStart_14 (by decide) ?_
  exact gg_iret X 16 d_W_refusalToStart_16
set_option maxHeartbeats 4000000 in
set_option maxRecDepth 100000 in
theorem t_W_refusalToStart_52 {p : Program} {l : Launch} {e : Env} {s0 : State} {m : MethodId} {args : Array Value} {below : List Frame} {meth : Method} {c : Code} {D : va_G} {A : Nat → Prop} {dI : Nat → ClassId} {ad : Nat → Nat} (X : CX p s0 m args meth c D vwCl (tyE dI) nwE A prog_1_method_50_code 5 (some .int) (Cond.code y_W_refusalToStart prog_1_method_50_code 5 (some .int) :: WS) R_W)  (s : eS) (ls : Array Slot)  (hl : lv_has ls 5 []) : GG p l e rm_W_refusalToStart s0 m args below meth c D vwCl (tyE dI) A (wE dI ad) 0 0 (QM below args s0 D vwCl (tyE dI) A (wE dI ad) rvI) (f_W_refusalToStart_52 s) (F0 m 52 ls []) s := by
  unfold f_W_refusalToStart_52
  refine gg_bipush X 52 (-3 : Int32) d_W_refusalToStart_52 (by decide) ?_
  exact gg_iret X 54 d_W_refusalToStart_54
set_option maxHeartbeats 4000000 in
set_option maxRecDepth 100000 in
theorem t_W_refusalToStart {p : Program} {l : Launch} {e : Env} {s0 : State} {m : MethodId} {args : Array Value} {below : List Frame} {meth : Method} {c : Code} {D : va_G} {A : Nat → Prop} {dI : Nat → ClassId} {ad : Nat → Nat} (X : CX p s0 m args meth c D vwCl (tyE dI) nwE A prog_1_method_50_code 5 (some .int) (Cond.code y_W_refusalToStart prog_1_method_50_code 5 (some .int) :: WS) R_W) (a1 : Int32) (a2 : Int32) (a3 : Int32) (s : eS) (ls : Array Slot)  (hl : lv_has ls 5 [(0, .ref (ad 0)), (1, .int a1), (2, .int a2), (3, .int a3)]) : GG p l e rm_W_refusalToStart s0 m args below meth c D vwCl (tyE dI) A (wE dI ad) 0 0 (QM below args s0 D vwCl (tyE dI) A (wE dI ad) rvI) (f_W_refusalToStart a1 a2 a3 s) (F0 m 0 ls []) s := by
  unfold f_W_refusalToStart
  refine gg_iload_n X 0 d_W_refusalToStart_0 rfl (lv_at hl 1 rfl) ?_
  refine gg_callS X 1 nwOk_E [.int a1] [] (fun _ _ h sz => M_W_isEnclave l D dI ad _ a1  h sz) (cwS 1 X.1.2.2.2.2 (gwS w_194 w_195 w_1 w_196) rfl rfl rfl (by decide +kernel) ⟨by decide, by decide⟩) rfl hl.1 rfl (Nat.le_of_ble_eq_true rfl) ⟨Nat.zero_le _, Nat.zero_le _⟩ d_W_refusalToStart_1 (fun r1 s2 ho3 => ?_)
  refine gg_show_i ?_
  refine gg_if_eq X 4 14 d_W_refusalToStart_4 rfl (fun _ => ?_) (fun _ => ?_)
  · exact t_W_refusalToStart_14 X s2 _  (lv_sub hl [] rfl)
  · refine gg_iload_n X 7 d_W_refusalToStart_7 rfl (lv_at hl 2 rfl) ?_
    refine gg_callS X 8 nwOk_E [.int a2] [] (fun _ _ h sz => M_W_isThread l D dI ad _ a2  h sz) (cwS 1 X.1.2.2.2.2 (gwS w_225 w_226 w_1 w_227) rfl rfl rfl (by decide +kernel) ⟨by decide, by decide⟩) rfl hl.1 rfl (Nat.le_of_ble_eq_true rfl) ⟨Nat.zero_le _, Nat.zero_le _⟩ d_W_refusalToStart_8 (fun r4 s5 ho6 => ?_)
    refine gg_show_i ?_
    refine gg_if_ne X 11 17 d_W_refusalToStart_11 rfl (fun _ => ?_) (fun _ => ?_)
    · refine gg_aload_n X 17 d_W_refusalToStart_17 rfl (lv_at hl 0 rfl) ?_
      refine gg_get_W_enclaves X 18 (Or.inl (List.mem_cons_of_mem _ w_83)) d_W_refusalToStart_18 ?_
      refine gg_iload_n X 21 d_W_refusalToStart_21 rfl (lv_at hl 1 rfl) ?_
      refine gg_ald_ENA X 22 d_W_refusalToStart_22 (fun hi7 => ?_)
      refine gg_astore X 23 3 (fun t8 => [(4, .ref (ad (5 + t8))), (0, .ref (ad 0)), (1, .int a1), (2, .int a2), (3, .int a3)]) d_W_refusalToStart_23 hl (by decide) (fun _ => rfl) (ixb hi7) (fun t8 ls ht9 hl => ?_)
      refine gg_aload X 25 d_W_refusalToStart_25 (lv_at hl 0 rfl) ?_
      refine gg_get_V_state X 27 ht9 (Or.inr ⟨_, nw_9⟩) d_W_refusalToStart_27 ?_
      refine gg_iconst X 30 (2 : Int32) d_W_refusalToStart_30 (by decide) ?_
      refine gg_icmp_ne X 31 52 d_W_refusalToStart_31 rfl (fun _ => ?_) (fun _ => ?_)
      · exact t_W_refusalToStart_52 X s5 _  (lv_sub hl [] rfl)
      · refine gg_aload X 34 d_W_refusalToStart_34 (lv_at hl 0 rfl) ?_
        refine gg_get_V_threads X 36 ht9 (Or.inr ⟨_, nw_8⟩) d_W_refusalToStart_36 ?_
        refine gg_iload_n X 39 d_W_refusalToStart_39 rfl (lv_at hl 3 rfl) ?_
        refine gg_ald_TA X 40 ht9 d_W_refusalToStart_40 (fun hi10 => ?_)
        refine gg_get_T_state X 41 (ixb2 ht9 (ixb hi10)) (Or.inr ⟨_, nw_6⟩) d_W_refusalToStart_41 ?_
        refine gg_iload_n X 44 d_W_refusalToStart_44 rfl (lv_at hl 4 rfl) ?_
        refine gg_icmp_ne X 45 52 d_W_refusalToStart_45 rfl (fun _ => ?_) (fun _ => ?_)
        · exact t_W_refusalToStart_52 X s5 _  (lv_sub hl [] rfl)
        · refine gg_iconst X 48 (0 : Int32) d_W_refusalToStart_48 (by decide) ?_
          refine gg_goto X 49 54 d_W_refusalToStart_49 rfl ?_
          exact gg_iret X 54 d_W_refusalToStart_54
    · exact t_W_refusalToStart_14 X s5 _  (lv_sub hl [] rfl)
theorem M_W_refusalToStart (l : Launch) (D : va_G) (dI : Nat → ClassId) (ad : Nat → Nat) (s : eS) (a1 : Int32) (a2 : Int32) (a3 : Int32)  {r : Int32} {s' : eS} (h : f_W_refusalToStart a1 a2 a3 s = some (r, s')) (sz : Nat) : Met l y_W_refusalToStart (Cond.code y_W_refusalToStart prog_1_method_50_code 5 (some .int) :: WS) rm_W_refusalToStart (Px (wE dI ad) D vwCl (tyE dI) nwE sz s [.ref (ad 0), .int a1, .int a2, .int a3]) (Qx rvI (wE dI ad) D vwCl (tyE dI) (va_A ((wE dI ad) s) sz) r s') 0 0 (va_A ((wE dI ad) s) sz) :=
  met_of [.ref (ad 0), .int a1, .int a2, .int a3] (by decide) rfl rfl (Nat.le_of_ble_eq_true rfl) h (fun p e s0 m args below meth c A ls X hl => t_W_refusalToStart X a1 a2 a3 s ls  hl)
set_option maxHeartbeats 4000000 in
set_option maxRecDepth 100000 in
theorem t_C_start_2 {p : Program} {l : Launch} {e : Env} {s0 : State} {m : MethodId} {args : Array Value} {below : List Frame} {meth : Method} {c : Code} {D : va_G} {A : Nat → Prop} {dI : Nat → ClassId} {ad : Nat → Nat} (X : CX p s0 m args meth c D vwCl (tyE dI) nwE A prog_2_method_4_code 4 none (Cond.code y_C_start prog_2_method_4_code 4 none :: WS) R_C) : ∀ (fl : Nat) (m0 : Nat) (x1 : Int32) (x2 : Int32) (x3 : Int32) (s : eS) (ls : Array Slot), m0 < 7 → lv_has ls 4 [(0, .ref (ad (17 + m0))), (1, .int x1), (2, .int x2), (3, .int x3)] → GG p l e rm_C_start s0 m args below meth c D vwCl (tyE dI) A (wE dI ad) 0 0 (QM below args s0 D vwCl (tyE dI) A (wE dI ad) rvV) (f_C_start_2 fl m0 x1 x2 x3 s) (F0 m 2 ls []) s := by
  intro fl
  induction fl with
  | zero =>
    intro m0 x1 x2 x3 s ls hm0 hl
    rw [f_C_start_2]
    exact gg_none
  | succ fl ih =>
    intro m0 x1 x2 x3 s ls hm0 hl
    rw [f_C_start_2]
    refine gg_iload_n X 2 d_C_start_2 rfl (lv_at hl 3 rfl) ?_
    refine gg_bipush X 3 (8 : Int32) d_C_start_3 (by decide) ?_
    refine gg_icmp_ge X 5 20 d_C_start_5 rfl (fun _ => ?_) (fun _ => ?_)
    · refine gg_aload_n X 20 d_C_start_20 rfl (lv_at hl 0 rfl) ?_
      refine gg_iconst X 21 (1 : Int32) d_C_start_21 (by decide) ?_
      refine gg_iload_n X 22 d_C_start_22 rfl (lv_at hl 2 rfl) ?_
      refine gg_callV X 23 nwOk_E [.int (1 : Int32), .int x2] [] (fun _ _ h sz => M_C_put l D dI ad _ m0 (1 : Int32) x2 hm0 h sz) (cwV 2 X.1.2.2.2.2 (gwV w_232 w_136 ws_C_put w_4 w_137) rfl rfl rfl (by decide +kernel) ⟨by decide, by decide⟩) (he_E_Core hm0) rfl rfl hl.1 rfl (Nat.le_of_ble_eq_true rfl) ⟨Nat.zero_le _, Nat.zero_le _⟩ d_C_start_23 (fun r1 s2 ho3 => ?_)
      refine gg_show_v ?_
      refine gg_aload_n X 26 d_C_start_26 rfl (lv_at hl 0 rfl) ?_
      refine gg_iload_n X 27 d_C_start_27 rfl (lv_at hl 1 rfl) ?_
      refine gg_put_C_pc X 28 hm0 (Or.inl (List.mem_cons_of_mem _ w_35)) d_C_start_28 (fun s4 => ?_)
      exact gg_vret X 31 d_C_start_31
    · refine gg_aload_n X 8 d_C_start_8 rfl (lv_at hl 0 rfl) ?_
      refine gg_iload_n X 9 d_C_start_9 rfl (lv_at hl 3 rfl) ?_
      refine gg_iconst X 10 (0 : Int32) d_C_start_10 (by decide) ?_
      refine gg_callV X 11 nwOk_E [.int x3, .int (0 : Int32)] [] (fun _ _ h sz => M_C_put l D dI ad _ m0 x3 (0 : Int32) hm0 h sz) (cwV 2 X.1.2.2.2.2 (gwV w_232 w_136 ws_C_put w_4 w_137) rfl rfl rfl (by decide +kernel) ⟨by decide, by decide⟩) (he_E_Core hm0) rfl rfl hl.1 rfl (Nat.le_of_ble_eq_true rfl) ⟨Nat.zero_le _, Nat.zero_le _⟩ d_C_start_11 (fun r5 s6 ho7 => ?_)
      refine gg_show_v ?_
      refine gg_iinc X 14 (k := 3) (1 : Int32) (fun v8 => [(3, .int v8), (0, .ref (ad (17 + m0))), (1, .int x1), (2, .int x2)]) d_C_start_14 hl rfl (by decide) (by decide) (fun _ => rfl) (fun v8 ls hl => ?_)
      refine gg_goto X 17 2 d_C_start_17 rfl ?_
      exact ih m0 x1 x2 v8 s6 _ hm0 (lv_sub hl [1, 2, 3, 0] rfl)
set_option maxHeartbeats 4000000 in
set_option maxRecDepth 100000 in
theorem t_C_start {p : Program} {l : Launch} {e : Env} {s0 : State} {m : MethodId} {args : Array Value} {below : List Frame} {meth : Method} {c : Code} {D : va_G} {A : Nat → Prop} {dI : Nat → ClassId} {ad : Nat → Nat} (X : CX p s0 m args meth c D vwCl (tyE dI) nwE A prog_2_method_4_code 4 none (Cond.code y_C_start prog_2_method_4_code 4 none :: WS) R_C) (n0 : Nat) (a1 : Int32) (a2 : Int32) (s : eS) (ls : Array Slot) (hb0 : n0 < 7) (hl : lv_has ls 4 [(0, .ref (ad (17 + n0))), (1, .int a1), (2, .int a2)]) : GG p l e rm_C_start s0 m args below meth c D vwCl (tyE dI) A (wE dI ad) 0 0 (QM below args s0 D vwCl (tyE dI) A (wE dI ad) rvV) (f_C_start n0 a1 a2 s) (F0 m 0 ls []) s := by
  unfold f_C_start
  refine gg_iconst X 0 (0 : Int32) d_C_start_0 (by decide) ?_
  refine gg_istore_n X 1 (fun v1 => [(3, .int v1), (0, .ref (ad (17 + n0))), (1, .int a1), (2, .int a2)]) d_C_start_1 rfl hl (by decide) (fun _ => rfl) (fun v1 ls hl => ?_)
  exact t_C_start_2 X fu n0 a1 a2 v1 s _ hb0 (lv_sub hl [1, 2, 3, 0] rfl)
theorem M_C_start (l : Launch) (D : va_G) (dI : Nat → ClassId) (ad : Nat → Nat) (s : eS) (n0 : Nat) (a1 : Int32) (a2 : Int32) (hb0 : n0 < 7) {r : Unit} {s' : eS} (h : f_C_start n0 a1 a2 s = some (r, s')) (sz : Nat) : Met l y_C_start (Cond.code y_C_start prog_2_method_4_code 4 none :: WS) rm_C_start (Px (wE dI ad) D vwCl (tyE dI) nwE sz s [.ref (ad (17 + n0)), .int a1, .int a2]) (Qx rvV (wE dI ad) D vwCl (tyE dI) (va_A ((wE dI ad) s) sz) r s') 0 0 (va_A ((wE dI ad) s) sz) :=
  met_of [.ref (ad (17 + n0)), .int a1, .int a2] (by decide) rfl rfl (Nat.le_of_ble_eq_true rfl) h (fun p e s0 m args below meth c A ls X hl => t_C_start X n0 a1 a2 s ls hb0 hl)
set_option maxHeartbeats 4000000 in
set_option maxRecDepth 100000 in
theorem t_W_handOver {p : Program} {l : Launch} {e : Env} {s0 : State} {m : MethodId} {args : Array Value} {below : List Frame} {meth : Method} {c : Code} {D : va_G} {A : Nat → Prop} {dI : Nat → ClassId} {ad : Nat → Nat} (X : CX p s0 m args meth c D vwCl (tyE dI) nwE A prog_1_method_51_code 3 none (Cond.code y_W_handOver prog_1_method_51_code 3 none :: WS) R_W) (a1 : Int32) (a2 : Int32) (s : eS) (ls : Array Slot)  (hl : lv_has ls 3 [(0, .ref (ad 0)), (1, .int a1), (2, .int a2)]) : GG p l e rm_W_handOver s0 m args below meth c D vwCl (tyE dI) A (wE dI ad) 0 0 (QM below args s0 D vwCl (tyE dI) A (wE dI ad) rvV) (f_W_handOver a1 a2 s) (F0 m 0 ls []) s := by
  unfold f_W_handOver
  refine gg_aload_n X 0 d_W_handOver_0 rfl (lv_at hl 0 rfl) ?_
  refine gg_get_W_enclaves X 1 (Or.inl (List.mem_cons_of_mem _ w_83)) d_W_handOver_1 ?_
  refine gg_iload_n X 4 d_W_handOver_4 rfl (lv_at hl 1 rfl) ?_
  refine gg_ald_ENA X 5 d_W_handOver_5 (fun hi1 => ?_)
  refine gg_get_V_threads X 6 (ixb hi1) (Or.inr ⟨_, nw_8⟩) d_W_handOver_6 ?_
  refine gg_iload_n X 9 d_W_handOver_9 rfl (lv_at hl 2 rfl) ?_
  refine gg_ald_TA X 10 (ixb hi1) d_W_handOver_10 (fun hi2 => ?_)
  refine gg_iconst X 11 (2 : Int32) d_W_handOver_11 (by decide) ?_
  refine gg_put_T_state X 12 (ixb2 (ixb hi1) (ixb hi2)) (Or.inr ⟨_, nw_6⟩) d_W_handOver_12 (fun s3 => ?_)
  refine gg_aload_n X 15 d_W_handOver_15 rfl (lv_at hl 0 rfl) ?_
  refine gg_iload_n X 16 d_W_handOver_16 rfl (lv_at hl 1 rfl) ?_
  refine gg_iconst X 17 (2 : Int32) d_W_handOver_17 (by decide) ?_
  refine gg_imul X 18 d_W_handOver_18 ?_
  refine gg_iload_n X 19 d_W_handOver_19 rfl (lv_at hl 2 rfl) ?_
  refine gg_iadd X 20 d_W_handOver_20 ?_
  refine gg_put_W_running X 21 (Or.inl (List.mem_cons_of_mem _ w_87)) d_W_handOver_21 (fun s4 => ?_)
  exact gg_vret X 24 d_W_handOver_24
theorem M_W_handOver (l : Launch) (D : va_G) (dI : Nat → ClassId) (ad : Nat → Nat) (s : eS) (a1 : Int32) (a2 : Int32)  {r : Unit} {s' : eS} (h : f_W_handOver a1 a2 s = some (r, s')) (sz : Nat) : Met l y_W_handOver (Cond.code y_W_handOver prog_1_method_51_code 3 none :: WS) rm_W_handOver (Px (wE dI ad) D vwCl (tyE dI) nwE sz s [.ref (ad 0), .int a1, .int a2]) (Qx rvV (wE dI ad) D vwCl (tyE dI) (va_A ((wE dI ad) s) sz) r s') 0 0 (va_A ((wE dI ad) s) sz) :=
  met_of [.ref (ad 0), .int a1, .int a2] (by decide) rfl rfl (Nat.le_of_ble_eq_true rfl) h (fun p e s0 m args below meth c A ls X hl => t_W_handOver X a1 a2 s ls  hl)
set_option maxHeartbeats 4000000 in
set_option maxRecDepth 100000 in
theorem t_W_enter_47 {p : Program} {l : Launch} {e : Env} {s0 : State} {m : MethodId} {args : Array Value} {below : List Frame} {meth : Method} {c : Code} {D : va_G} {A : Nat → Prop} {dI : Nat → ClassId} {ad : Nat → Nat} (X : CX p s0 m args meth c D vwCl (tyE dI) nwE A prog_1_method_48_code 6 (some .int) (Cond.code y_W_enter prog_1_method_48_code 6 (some .int) :: WS) R_W) (x4 : Int32) (s : eS) (ls : Array Slot)  (hl : lv_has ls 6 [(4, .int x4)]) : GG p l e rm_W_enter s0 m args below meth c D vwCl (tyE dI) A (wE dI ad) 0 0 (QM below args s0 D vwCl (tyE dI) A (wE dI ad) rvI) (f_W_enter_47 x4 s) (F0 m 47 ls []) s := by
  unfold f_W_enter_47
  refine gg_iload X 47 d_W_enter_47 (lv_at hl 0 rfl) ?_
  exact gg_iret X 49 d_W_enter_49
set_option maxHeartbeats 4000000 in
set_option maxRecDepth 100000 in
theorem t_W_enter {p : Program} {l : Launch} {e : Env} {s0 : State} {m : MethodId} {args : Array Value} {below : List Frame} {meth : Method} {c : Code} {D : va_G} {A : Nat → Prop} {dI : Nat → ClassId} {ad : Nat → Nat} (X : CX p s0 m args meth c D vwCl (tyE dI) nwE A prog_1_method_48_code 6 (some .int) (Cond.code y_W_enter prog_1_method_48_code 6 (some .int) :: WS) R_W) (a1 : Int32) (a2 : Int32) (a3 : Int32) (s : eS) (ls : Array Slot)  (hl : lv_has ls 6 [(0, .ref (ad 0)), (1, .int a1), (2, .int a2), (3, .int a3)]) : GG p l e rm_W_enter s0 m args below meth c D vwCl (tyE dI) A (wE dI ad) 0 0 (QM below args s0 D vwCl (tyE dI) A (wE dI ad) rvI) (f_W_enter a1 a2 a3 s) (F0 m 0 ls []) s := by
  unfold f_W_enter
  refine gg_aload_n X 0 d_W_enter_0 rfl (lv_at hl 0 rfl) ?_
  refine gg_iload_n X 1 d_W_enter_1 rfl (lv_at hl 1 rfl) ?_
  refine gg_iload_n X 2 d_W_enter_2 rfl (lv_at hl 2 rfl) ?_
  refine gg_iconst X 3 (1 : Int32) d_W_enter_3 (by decide) ?_
  refine gg_callV X 4 nwOk_E [.int a1, .int a2, .int (1 : Int32)] [] (fun _ _ h sz => M_W_refusalToStart l D dI ad _ a1 a2 (1 : Int32)  h sz) (cwV 3 X.1.2.2.2.2 (gwV w_221 w_223 ws_W_refusalToStart w_1 w_224) rfl rfl rfl (by decide +kernel) ⟨by decide, by decide⟩) (he_E_Main) rfl rfl hl.1 rfl (Nat.le_of_ble_eq_true rfl) ⟨Nat.zero_le _, Nat.zero_le _⟩ d_W_enter_4 (fun r1 s2 ho3 => ?_)
  refine gg_show_i ?_
  refine gg_istore X 7 (fun v4 => [(4, .int v4), (0, .ref (ad 0)), (1, .int a1), (2, .int a2), (3, .int a3)]) d_W_enter_7 hl (by decide) (fun _ => rfl) (fun v4 ls hl => ?_)
  refine gg_iload X 9 d_W_enter_9 (lv_at hl 0 rfl) ?_
  refine gg_if_ne X 11 47 d_W_enter_11 rfl (fun _ => ?_) (fun _ => ?_)
  · exact t_W_enter_47 X v4 s2 _  (lv_sub hl [0] rfl)
  · refine gg_aload_n X 14 d_W_enter_14 rfl (lv_at hl 1 rfl) ?_
    refine gg_get_W_enclaves X 15 (Or.inl (List.mem_cons_of_mem _ w_83)) d_W_enter_15 ?_
    refine gg_iload_n X 18 d_W_enter_18 rfl (lv_at hl 2 rfl) ?_
    refine gg_ald_ENA X 19 d_W_enter_19 (fun hi5 => ?_)
    refine gg_get_V_threads X 20 (ixb hi5) (Or.inr ⟨_, nw_8⟩) d_W_enter_20 ?_
    refine gg_iload_n X 23 d_W_enter_23 rfl (lv_at hl 3 rfl) ?_
    refine gg_ald_TA X 24 (ixb hi5) d_W_enter_24 (fun hi6 => ?_)
    refine gg_astore X 25 6 (fun t7 => [(5, .ref (ad (11 + t7))), (4, .int v4), (0, .ref (ad 0)), (1, .int a1), (2, .int a2), (3, .int a3)]) d_W_enter_25 hl (by decide) (fun _ => rfl) (ixb2 (ixb hi5) (ixb hi6)) (fun t7 ls ht8 hl => ?_)
    refine gg_aload X 27 d_W_enter_27 (lv_at hl 0 rfl) ?_
    refine gg_get_T_core X 29 ht8 (Or.inr ⟨_, nw_4⟩) d_W_enter_29 ?_
    refine gg_aload X 32 d_W_enter_32 (lv_at hl 0 rfl) ?_
    refine gg_get_T_entry X 34 ht8 (Or.inr ⟨_, nw_7⟩) d_W_enter_34 ?_
    refine gg_iload_n X 37 d_W_enter_37 rfl (lv_at hl 5 rfl) ?_
    refine gg_callVN X 38 nwOk_E [.int (s2 7 t7), .int a3] [] (fun _ _ h sz => M_C_start l D dI ad _ t7 (s2 7 t7) a3 (Nat.lt_of_lt_of_le ht8 (by decide)) h sz) (⟨va_cnB 2 X.1.2.2.2.2 (gwB w_231) rfl rfl rfl (X.2.2.2.2.2 _ nw_19) (X.1.2.2.2.2 _ (List.mem_cons_of_mem _ w_4)) (by decide +kernel) ⟨by decide, by decide⟩, X.1.2.2.2.2 _ (List.mem_cons_of_mem _ w_230), X.1.2.2.2.2 _ (List.mem_cons_of_mem _ ws_C_start)⟩) (he_E_Core (Nat.lt_of_lt_of_le ht8 (by decide))) rfl rfl hl.1 rfl (Nat.le_of_ble_eq_true rfl) ⟨Nat.zero_le _, Nat.zero_le _⟩ d_W_enter_38 (fun r9 s10 ho11 => ?_)
    refine gg_show_v ?_
    refine gg_aload_n X 41 d_W_enter_41 rfl (lv_at hl 2 rfl) ?_
    refine gg_iload_n X 42 d_W_enter_42 rfl (lv_at hl 3 rfl) ?_
    refine gg_iload_n X 43 d_W_enter_43 rfl (lv_at hl 4 rfl) ?_
    refine gg_callV X 44 nwOk_E [.int a1, .int a2] [] (fun _ _ h sz => M_W_handOver l D dI ad _ a1 a2  h sz) (cwV 2 X.1.2.2.2.2 (gwV w_233 w_235 ws_W_handOver w_1 w_236) rfl rfl rfl (by decide +kernel) ⟨by decide, by decide⟩) (he_E_Main) rfl rfl hl.1 rfl (Nat.le_of_ble_eq_true rfl) ⟨Nat.zero_le _, Nat.zero_le _⟩ d_W_enter_44 (fun r12 s13 ho14 => ?_)
    refine gg_show_v ?_
    exact t_W_enter_47 X v4 s13 _  (lv_sub hl [1] rfl)
theorem M_W_enter (l : Launch) (D : va_G) (dI : Nat → ClassId) (ad : Nat → Nat) (s : eS) (a1 : Int32) (a2 : Int32) (a3 : Int32)  {r : Int32} {s' : eS} (h : f_W_enter a1 a2 a3 s = some (r, s')) (sz : Nat) : Met l y_W_enter (Cond.code y_W_enter prog_1_method_48_code 6 (some .int) :: WS) rm_W_enter (Px (wE dI ad) D vwCl (tyE dI) nwE sz s [.ref (ad 0), .int a1, .int a2, .int a3]) (Qx rvI (wE dI ad) D vwCl (tyE dI) (va_A ((wE dI ad) s) sz) r s') 0 0 (va_A ((wE dI ad) s) sz) :=
  met_of [.ref (ad 0), .int a1, .int a2, .int a3] (by decide) rfl rfl (Nat.le_of_ble_eq_true rfl) h (fun p e s0 m args below meth c A ls X hl => t_W_enter X a1 a2 a3 s ls  hl)
set_option maxHeartbeats 4000000 in
set_option maxRecDepth 100000 in
theorem t_W_resume_18 {p : Program} {l : Launch} {e : Env} {s0 : State} {m : MethodId} {args : Array Value} {below : List Frame} {meth : Method} {c : Code} {D : va_G} {A : Nat → Prop} {dI : Nat → ClassId} {ad : Nat → Nat} (X : CX p s0 m args meth c D vwCl (tyE dI) nwE A prog_1_method_49_code 4 (some .int) (Cond.code y_W_resume prog_1_method_49_code 4 (some .int) :: WS) R_W) (x3 : Int32) (s : eS) (ls : Array Slot)  (hl : lv_has ls 4 [(3, .int x3)]) : GG p l e rm_W_resume s0 m args below meth c D vwCl (tyE dI) A (wE dI ad) 0 0 (QM below args s0 D vwCl (tyE dI) A (wE dI ad) rvI) (f_W_resume_18 x3 s) (F0 m 18 ls []) s := by
  unfold f_W_resume_18
  refine gg_iload_n X 18 d_W_resume_18 rfl (lv_at hl 0 rfl) ?_
  exact gg_iret X 19 d_W_resume_19
set_option maxHeartbeats 4000000 in
set_option maxRecDepth 100000 in
theorem t_W_resume {p : Program} {l : Launch} {e : Env} {s0 : State} {m : MethodId} {args : Array Value} {below : List Frame} {meth : Method} {c : Code} {D : va_G} {A : Nat → Prop} {dI : Nat → ClassId} {ad : Nat → Nat} (X : CX p s0 m args meth c D vwCl (tyE dI) nwE A prog_1_method_49_code 4 (some .int) (Cond.code y_W_resume prog_1_method_49_code 4 (some .int) :: WS) R_W) (a1 : Int32) (a2 : Int32) (s : eS) (ls : Array Slot)  (hl : lv_has ls 4 [(0, .ref (ad 0)), (1, .int a1), (2, .int a2)]) : GG p l e rm_W_resume s0 m args below meth c D vwCl (tyE dI) A (wE dI ad) 0 0 (QM below args s0 D vwCl (tyE dI) A (wE dI ad) rvI) (f_W_resume a1 a2 s) (F0 m 0 ls []) s := by
  unfold f_W_resume
  refine gg_aload_n X 0 d_W_resume_0 rfl (lv_at hl 0 rfl) ?_
  refine gg_iload_n X 1 d_W_resume_1 rfl (lv_at hl 1 rfl) ?_
  refine gg_iload_n X 2 d_W_resume_2 rfl (lv_at hl 2 rfl) ?_
  refine gg_iconst X 3 (3 : Int32) d_W_resume_3 (by decide) ?_
  refine gg_callV X 4 nwOk_E [.int a1, .int a2, .int (3 : Int32)] [] (fun _ _ h sz => M_W_refusalToStart l D dI ad _ a1 a2 (3 : Int32)  h sz) (cwV 3 X.1.2.2.2.2 (gwV w_221 w_223 ws_W_refusalToStart w_1 w_224) rfl rfl rfl (by decide +kernel) ⟨by decide, by decide⟩) (he_E_Main) rfl rfl hl.1 rfl (Nat.le_of_ble_eq_true rfl) ⟨Nat.zero_le _, Nat.zero_le _⟩ d_W_resume_4 (fun r1 s2 ho3 => ?_)
  refine gg_show_i ?_
  refine gg_istore_n X 7 (fun v4 => [(3, .int v4), (0, .ref (ad 0)), (1, .int a1), (2, .int a2)]) d_W_resume_7 rfl hl (by decide) (fun _ => rfl) (fun v4 ls hl => ?_)
  refine gg_iload_n X 8 d_W_resume_8 rfl (lv_at hl 0 rfl) ?_
  refine gg_if_ne X 9 18 d_W_resume_9 rfl (fun _ => ?_) (fun _ => ?_)
  · exact t_W_resume_18 X v4 s2 _  (lv_sub hl [0] rfl)
  · refine gg_aload_n X 12 d_W_resume_12 rfl (lv_at hl 1 rfl) ?_
    refine gg_iload_n X 13 d_W_resume_13 rfl (lv_at hl 2 rfl) ?_
    refine gg_iload_n X 14 d_W_resume_14 rfl (lv_at hl 3 rfl) ?_
    refine gg_callV X 15 nwOk_E [.int a1, .int a2] [] (fun _ _ h sz => M_W_handOver l D dI ad _ a1 a2  h sz) (cwV 2 X.1.2.2.2.2 (gwV w_233 w_235 ws_W_handOver w_1 w_236) rfl rfl rfl (by decide +kernel) ⟨by decide, by decide⟩) (he_E_Main) rfl rfl hl.1 rfl (Nat.le_of_ble_eq_true rfl) ⟨Nat.zero_le _, Nat.zero_le _⟩ d_W_resume_15 (fun r5 s6 ho7 => ?_)
    refine gg_show_v ?_
    exact t_W_resume_18 X v4 s6 _  (lv_sub hl [0] rfl)
theorem M_W_resume (l : Launch) (D : va_G) (dI : Nat → ClassId) (ad : Nat → Nat) (s : eS) (a1 : Int32) (a2 : Int32)  {r : Int32} {s' : eS} (h : f_W_resume a1 a2 s = some (r, s')) (sz : Nat) : Met l y_W_resume (Cond.code y_W_resume prog_1_method_49_code 4 (some .int) :: WS) rm_W_resume (Px (wE dI ad) D vwCl (tyE dI) nwE sz s [.ref (ad 0), .int a1, .int a2]) (Qx rvI (wE dI ad) D vwCl (tyE dI) (va_A ((wE dI ad) s) sz) r s') 0 0 (va_A ((wE dI ad) s) sz) :=
  met_of [.ref (ad 0), .int a1, .int a2] (by decide) rfl rfl (Nat.le_of_ble_eq_true rfl) h (fun p e s0 m args below meth c A ls X hl => t_W_resume X a1 a2 s ls  hl)
set_option maxHeartbeats 4000000 in
set_option maxRecDepth 100000 in
theorem t_W_stop {p : Program} {l : Launch} {e : Env} {s0 : State} {m : MethodId} {args : Array Value} {below : List Frame} {meth : Method} {c : Code} {D : va_G} {A : Nat → Prop} {dI : Nat → ClassId} {ad : Nat → Nat} (X : CX p s0 m args meth c D vwCl (tyE dI) nwE A prog_1_method_52_code 2 (some .int) (Cond.code y_W_stop prog_1_method_52_code 2 (some .int) :: WS) R_W) (a1 : Int32) (s : eS) (ls : Array Slot)  (hl : lv_has ls 2 [(0, .ref (ad 0)), (1, .int a1)]) : GG p l e rm_W_stop s0 m args below meth c D vwCl (tyE dI) A (wE dI ad) 0 0 (QM below args s0 D vwCl (tyE dI) A (wE dI ad) rvI) (f_W_stop a1 s) (F0 m 0 ls []) s := by
  unfold f_W_stop
  refine gg_iload_n X 0 d_W_stop_0 rfl (lv_at hl 1 rfl) ?_
  refine gg_callS X 1 nwOk_E [.int a1] [] (fun _ _ h sz => M_W_isEnclave l D dI ad _ a1  h sz) (cwS 1 X.1.2.2.2.2 (gwS w_194 w_195 w_1 w_196) rfl rfl rfl (by decide +kernel) ⟨by decide, by decide⟩) rfl hl.1 rfl (Nat.le_of_ble_eq_true rfl) ⟨Nat.zero_le _, Nat.zero_le _⟩ d_W_stop_1 (fun r1 s2 ho3 => ?_)
  refine gg_show_i ?_
  refine gg_if_ne X 4 10 d_W_stop_4 rfl (fun _ => ?_) (fun _ => ?_)
  · refine gg_aload_n X 10 d_W_stop_10 rfl (lv_at hl 0 rfl) ?_
    refine gg_get_W_enclaves X 11 (Or.inl (List.mem_cons_of_mem _ w_83)) d_W_stop_11 ?_
    refine gg_iload_n X 14 d_W_stop_14 rfl (lv_at hl 1 rfl) ?_
    refine gg_ald_ENA X 15 d_W_stop_15 (fun hi4 => ?_)
    refine gg_get_V_state X 16 (ixb hi4) (Or.inr ⟨_, nw_9⟩) d_W_stop_16 ?_
    refine gg_iconst X 19 (2 : Int32) d_W_stop_19 (by decide) ?_
    refine gg_icmp_eq X 20 26 d_W_stop_20 rfl (fun _ => ?_) (fun _ => ?_)
    · refine gg_aload_n X 26 d_W_stop_26 rfl (lv_at hl 0 rfl) ?_
      refine gg_get_W_enclaves X 27 (Or.inl (List.mem_cons_of_mem _ w_83)) d_W_stop_27 ?_
      refine gg_iload_n X 30 d_W_stop_30 rfl (lv_at hl 1 rfl) ?_
      refine gg_ald_ENA X 31 d_W_stop_31 (fun hi5 => ?_)
      refine gg_iconst X 32 (3 : Int32) d_W_stop_32 (by decide) ?_
      refine gg_put_V_state X 33 (ixb hi5) (Or.inr ⟨_, nw_9⟩) d_W_stop_33 (fun s6 => ?_)
      refine gg_iconst X 36 (0 : Int32) d_W_stop_36 (by decide) ?_
      exact gg_iret X 37 d_W_stop_37
    · refine gg_bipush X 23 (-3 : Int32) d_W_stop_23 (by decide) ?_
      exact gg_iret X 25 d_W_stop_25
  · refine gg_bipush X 7 (-2 : Int32) d_W_stop_7 (by decide) ?_
    exact gg_iret X 9 d_W_stop_9
theorem M_W_stop (l : Launch) (D : va_G) (dI : Nat → ClassId) (ad : Nat → Nat) (s : eS) (a1 : Int32)  {r : Int32} {s' : eS} (h : f_W_stop a1 s = some (r, s')) (sz : Nat) : Met l y_W_stop (Cond.code y_W_stop prog_1_method_52_code 2 (some .int) :: WS) rm_W_stop (Px (wE dI ad) D vwCl (tyE dI) nwE sz s [.ref (ad 0), .int a1]) (Qx rvI (wE dI ad) D vwCl (tyE dI) (va_A ((wE dI ad) s) sz) r s') 0 0 (va_A ((wE dI ad) s) sz) :=
  met_of [.ref (ad 0), .int a1] (by decide) rfl rfl (Nat.le_of_ble_eq_true rfl) h (fun p e s0 m args below meth c A ls X hl => t_W_stop X a1 s ls  hl)
set_option maxHeartbeats 4000000 in
set_option maxRecDepth 100000 in
theorem t_W_free_2 {p : Program} {l : Launch} {e : Env} {s0 : State} {m : MethodId} {args : Array Value} {below : List Frame} {meth : Method} {c : Code} {D : va_G} {A : Nat → Prop} {dI : Nat → ClassId} {ad : Nat → Nat} (X : CX p s0 m args meth c D vwCl (tyE dI) nwE A prog_1_method_56_code 3 none (Cond.code y_W_free prog_1_method_56_code 3 none :: WS) R_W) : ∀ (fl : Nat) (x1 : Int32) (x2 : Int32) (s : eS) (ls : Array Slot), lv_has ls 3 [(0, .ref (ad 0)), (1, .int x1), (2, .int x2)] → GG p l e rm_W_free s0 m args below meth c D vwCl (tyE dI) A (wE dI ad) 0 0 (QM below args s0 D vwCl (tyE dI) A (wE dI ad) rvV) (f_W_free_2 fl x1 x2 s) (F0 m 2 ls []) s := by
  intro fl
  induction fl with
  | zero =>
    intro x1 x2 s ls hl
    rw [f_W_free_2]
    exact gg_none
  | succ fl ih =>
    intro x1 x2 s ls hl
    rw [f_W_free_2]
    refine gg_iload_n X 2 d_W_free_2 rfl (lv_at hl 2 rfl) ?_
    refine gg_bipush X 3 (16 : Int32) d_W_free_3 (by decide) ?_
    refine gg_icmp_ge X 5 26 d_W_free_5 rfl (fun _ => ?_) (fun _ => ?_)
    · refine gg_aload_n X 26 d_W_free_26 rfl (lv_at hl 0 rfl) ?_
      refine gg_get_W_kinds X 27 (Or.inl (List.mem_cons_of_mem _ w_82)) d_W_free_27 ?_
      refine gg_iload_n X 30 d_W_free_30 rfl (lv_at hl 1 rfl) ?_
      refine gg_iconst X 31 (0 : Int32) d_W_free_31 (by decide) ?_
      refine gg_ast_KIN X 32 d_W_free_32 (fun s1 => ?_)
      exact gg_vret X 33 d_W_free_33
    · refine gg_aload_n X 8 d_W_free_8 rfl (lv_at hl 0 rfl) ?_
      refine gg_get_W_memory X 9 (Or.inl (List.mem_cons_of_mem _ w_81)) d_W_free_9 ?_
      refine gg_iload_n X 12 d_W_free_12 rfl (lv_at hl 1 rfl) ?_
      refine gg_bipush X 13 (16 : Int32) d_W_free_13 (by decide) ?_
      refine gg_imul X 15 d_W_free_15 ?_
      refine gg_iload_n X 16 d_W_free_16 rfl (lv_at hl 2 rfl) ?_
      refine gg_iadd X 17 d_W_free_17 ?_
      refine gg_iconst X 18 (0 : Int32) d_W_free_18 (by decide) ?_
      refine gg_ast_MEM X 19 d_W_free_19 (fun s2 => ?_)
      refine gg_iinc X 20 (k := 2) (1 : Int32) (fun v3 => [(2, .int v3), (0, .ref (ad 0)), (1, .int x1)]) d_W_free_20 hl rfl (by decide) (by decide) (fun _ => rfl) (fun v3 ls hl => ?_)
      refine gg_goto X 23 2 d_W_free_23 rfl ?_
      exact ih x1 v3 s2 _  (lv_sub hl [1, 2, 0] rfl)
set_option maxHeartbeats 4000000 in
set_option maxRecDepth 100000 in
theorem t_W_free {p : Program} {l : Launch} {e : Env} {s0 : State} {m : MethodId} {args : Array Value} {below : List Frame} {meth : Method} {c : Code} {D : va_G} {A : Nat → Prop} {dI : Nat → ClassId} {ad : Nat → Nat} (X : CX p s0 m args meth c D vwCl (tyE dI) nwE A prog_1_method_56_code 3 none (Cond.code y_W_free prog_1_method_56_code 3 none :: WS) R_W) (a1 : Int32) (s : eS) (ls : Array Slot)  (hl : lv_has ls 3 [(0, .ref (ad 0)), (1, .int a1)]) : GG p l e rm_W_free s0 m args below meth c D vwCl (tyE dI) A (wE dI ad) 0 0 (QM below args s0 D vwCl (tyE dI) A (wE dI ad) rvV) (f_W_free a1 s) (F0 m 0 ls []) s := by
  unfold f_W_free
  refine gg_iconst X 0 (0 : Int32) d_W_free_0 (by decide) ?_
  refine gg_istore_n X 1 (fun v1 => [(2, .int v1), (0, .ref (ad 0)), (1, .int a1)]) d_W_free_1 rfl hl (by decide) (fun _ => rfl) (fun v1 ls hl => ?_)
  exact t_W_free_2 X fu a1 v1 s _  (lv_sub hl [1, 2, 0] rfl)
theorem M_W_free (l : Launch) (D : va_G) (dI : Nat → ClassId) (ad : Nat → Nat) (s : eS) (a1 : Int32)  {r : Unit} {s' : eS} (h : f_W_free a1 s = some (r, s')) (sz : Nat) : Met l y_W_free (Cond.code y_W_free prog_1_method_56_code 3 none :: WS) rm_W_free (Px (wE dI ad) D vwCl (tyE dI) nwE sz s [.ref (ad 0), .int a1]) (Qx rvV (wE dI ad) D vwCl (tyE dI) (va_A ((wE dI ad) s) sz) r s') 0 0 (va_A ((wE dI ad) s) sz) :=
  met_of [.ref (ad 0), .int a1] (by decide) rfl rfl (Nat.le_of_ble_eq_true rfl) h (fun p e s0 m args below meth c A ls X hl => t_W_free X a1 s ls  hl)
set_option maxHeartbeats 4000000 in
set_option maxRecDepth 100000 in
theorem t_W_destroy_29 {p : Program} {l : Launch} {e : Env} {s0 : State} {m : MethodId} {args : Array Value} {below : List Frame} {meth : Method} {c : Code} {D : va_G} {A : Nat → Prop} {dI : Nat → ClassId} {ad : Nat → Nat} (X : CX p s0 m args meth c D vwCl (tyE dI) nwE A prog_1_method_53_code 4 (some .int) (Cond.code y_W_destroy prog_1_method_53_code 4 (some .int) :: WS) R_W)  (s : eS) (ls : Array Slot)  (hl : lv_has ls 4 []) : GG p l e rm_W_destroy s0 m args below meth c D vwCl (tyE dI) A (wE dI ad) 0 0 (QM below args s0 D vwCl (tyE dI) A (wE dI ad) rvI) (f_W_destroy_29 s) (F0 m 29 ls []) s := by
  unfold f_W_destroy_29
  refine gg_bipush X 29 (-3 : Int32) d_W_destroy_29 (by decide) ?_
  exact gg_iret X 31 d_W_destroy_31
set_option maxHeartbeats 4000000 in
set_option maxRecDepth 100000 in
theorem t_W_destroy_34 {p : Program} {l : Launch} {e : Env} {s0 : State} {m : MethodId} {args : Array Value} {below : List Frame} {meth : Method} {c : Code} {D : va_G} {A : Nat → Prop} {dI : Nat → ClassId} {ad : Nat → Nat} (X : CX p s0 m args meth c D vwCl (tyE dI) nwE A prog_1_method_53_code 4 (some .int) (Cond.code y_W_destroy prog_1_method_53_code 4 (some .int) :: WS) R_W) : ∀ (fl : Nat) (x1 : Int32) (x3 : Int32) (s : eS) (ls : Array Slot), lv_has ls 4 [(0, .ref (ad 0)), (1, .int x1), (3, .int x3)] → GG p l e rm_W_destroy s0 m args below meth c D vwCl (tyE dI) A (wE dI ad) 0 0 (QM below args s0 D vwCl (tyE dI) A (wE dI ad) rvI) (f_W_destroy_34 fl x1 x3 s) (F0 m 34 ls []) s := by
  intro fl
  induction fl with
  | zero =>
    intro x1 x3 s ls hl
    rw [f_W_destroy_34]
    exact gg_none
  | succ fl ih =>
    intro x1 x3 s ls hl
    rw [f_W_destroy_34]
    refine gg_iload_n X 34 d_W_destroy_34 rfl (lv_at hl 2 rfl) ?_
    refine gg_bipush X 35 (16 : Int32) d_W_destroy_35 (by decide) ?_
    refine gg_icmp_ge X 37 85 d_W_destroy_37 rfl (fun _ => ?_) (fun _ => ?_)
    · refine gg_aload_n X 85 d_W_destroy_85 rfl (lv_at hl 0 rfl) ?_
      refine gg_get_W_enclaves X 86 (Or.inl (List.mem_cons_of_mem _ w_83)) d_W_destroy_86 ?_
      refine gg_iload_n X 89 d_W_destroy_89 rfl (lv_at hl 1 rfl) ?_
      refine gg_ald_ENA X 90 d_W_destroy_90 (fun hi1 => ?_)
      refine gg_iconst X 91 (0 : Int32) d_W_destroy_91 (by decide) ?_
      refine gg_callVN X 92 nwOk_E [.int (0 : Int32)] [] (fun _ _ h sz => M_V_become l D dI ad _ (Int32.toNatClampNeg x1) (0 : Int32) (ixb hi1) h sz) (⟨va_cnB 1 X.1.2.2.2.2 (gwB w_60) rfl rfl rfl (X.2.2.2.2.2 _ nw_15) (X.1.2.2.2.2 _ (List.mem_cons_of_mem _ w_2)) (by decide +kernel) ⟨by decide, by decide⟩, X.1.2.2.2.2 _ (List.mem_cons_of_mem _ w_59), X.1.2.2.2.2 _ (List.mem_cons_of_mem _ ws_V_become)⟩) (he_E_Enc (ixb hi1)) rfl rfl hl.1 rfl (Nat.le_of_ble_eq_true rfl) ⟨Nat.zero_le _, Nat.zero_le _⟩ d_W_destroy_92 (fun r2 s3 ho4 => ?_)
      refine gg_show_v ?_
      refine gg_iconst X 95 (0 : Int32) d_W_destroy_95 (by decide) ?_
      exact gg_iret X 96 d_W_destroy_96
    · refine gg_aload_n X 40 d_W_destroy_40 rfl (lv_at hl 0 rfl) ?_
      refine gg_get_W_kinds X 41 (Or.inl (List.mem_cons_of_mem _ w_82)) d_W_destroy_41 ?_
      refine gg_iload_n X 44 d_W_destroy_44 rfl (lv_at hl 2 rfl) ?_
      refine gg_ald_KIN X 45 d_W_destroy_45 ?_
      refine gg_iconst X 46 (2 : Int32) d_W_destroy_46 (by decide) ?_
      refine gg_iload_n X 47 d_W_destroy_47 rfl (lv_at hl 1 rfl) ?_
      refine gg_iadd X 48 d_W_destroy_48 ?_
      refine gg_icmp_ne X 49 60 d_W_destroy_49 rfl (fun _ => ?_) (fun _ => ?_)
      · refine gg_aload_n X 60 d_W_destroy_60 rfl (lv_at hl 0 rfl) ?_
        refine gg_get_W_kinds X 61 (Or.inl (List.mem_cons_of_mem _ w_82)) d_W_destroy_61 ?_
        refine gg_iload_n X 64 d_W_destroy_64 rfl (lv_at hl 2 rfl) ?_
        refine gg_ald_KIN X 65 d_W_destroy_65 ?_
        refine gg_iconst X 66 (5 : Int32) d_W_destroy_66 (by decide) ?_
        refine gg_iload_n X 67 d_W_destroy_67 rfl (lv_at hl 1 rfl) ?_
        refine gg_iadd X 68 d_W_destroy_68 ?_
        refine gg_icmp_ne X 69 79 d_W_destroy_69 rfl (fun _ => ?_) (fun _ => ?_)
        · refine gg_iinc X 79 (k := 2) (1 : Int32) (fun v5 => [(3, .int v5), (0, .ref (ad 0)), (1, .int x1)]) d_W_destroy_79 hl rfl (by decide) (by decide) (fun _ => rfl) (fun v5 ls hl => ?_)
          refine gg_goto X 82 34 d_W_destroy_82 rfl ?_
          exact ih x1 v5 s _  (lv_sub hl [1, 2, 0] rfl)
        · refine gg_aload_n X 72 d_W_destroy_72 rfl (lv_at hl 0 rfl) ?_
          refine gg_get_W_kinds X 73 (Or.inl (List.mem_cons_of_mem _ w_82)) d_W_destroy_73 ?_
          refine gg_iload_n X 76 d_W_destroy_76 rfl (lv_at hl 2 rfl) ?_
          refine gg_iconst X 77 (1 : Int32) d_W_destroy_77 (by decide) ?_
          refine gg_ast_KIN X 78 d_W_destroy_78 (fun s6 => ?_)
          refine gg_iinc X 79 (k := 2) (1 : Int32) (fun v7 => [(3, .int v7), (0, .ref (ad 0)), (1, .int x1)]) d_W_destroy_79 hl rfl (by decide) (by decide) (fun _ => rfl) (fun v7 ls hl => ?_)
          refine gg_goto X 82 34 d_W_destroy_82 rfl ?_
          exact ih x1 v7 s6 _  (lv_sub hl [1, 2, 0] rfl)
      · refine gg_aload_n X 52 d_W_destroy_52 rfl (lv_at hl 0 rfl) ?_
        refine gg_iload_n X 53 d_W_destroy_53 rfl (lv_at hl 2 rfl) ?_
        refine gg_callV X 54 nwOk_E [.int x3] [] (fun _ _ h sz => M_W_free l D dI ad _ x3  h sz) (cwV 1 X.1.2.2.2.2 (gwV w_249 w_251 ws_W_free w_1 w_252) rfl rfl rfl (by decide +kernel) ⟨by decide, by decide⟩) (he_E_Main) rfl rfl hl.1 rfl (Nat.le_of_ble_eq_true rfl) ⟨Nat.zero_le _, Nat.zero_le _⟩ d_W_destroy_54 (fun r8 s9 ho10 => ?_)
        refine gg_show_v ?_
        refine gg_goto X 57 79 d_W_destroy_57 rfl ?_
        refine gg_iinc X 79 (k := 2) (1 : Int32) (fun v11 => [(3, .int v11), (0, .ref (ad 0)), (1, .int x1)]) d_W_destroy_79 hl rfl (by decide) (by decide) (fun _ => rfl) (fun v11 ls hl => ?_)
        refine gg_goto X 82 34 d_W_destroy_82 rfl ?_
        exact ih x1 v11 s9 _  (lv_sub hl [1, 2, 0] rfl)
set_option maxHeartbeats 4000000 in
set_option maxRecDepth 100000 in
theorem t_W_destroy {p : Program} {l : Launch} {e : Env} {s0 : State} {m : MethodId} {args : Array Value} {below : List Frame} {meth : Method} {c : Code} {D : va_G} {A : Nat → Prop} {dI : Nat → ClassId} {ad : Nat → Nat} (X : CX p s0 m args meth c D vwCl (tyE dI) nwE A prog_1_method_53_code 4 (some .int) (Cond.code y_W_destroy prog_1_method_53_code 4 (some .int) :: WS) R_W) (a1 : Int32) (s : eS) (ls : Array Slot)  (hl : lv_has ls 4 [(0, .ref (ad 0)), (1, .int a1)]) : GG p l e rm_W_destroy s0 m args below meth c D vwCl (tyE dI) A (wE dI ad) 0 0 (QM below args s0 D vwCl (tyE dI) A (wE dI ad) rvI) (f_W_destroy a1 s) (F0 m 0 ls []) s := by
  unfold f_W_destroy
  refine gg_iload_n X 0 d_W_destroy_0 rfl (lv_at hl 1 rfl) ?_
  refine gg_callS X 1 nwOk_E [.int a1] [] (fun _ _ h sz => M_W_isEnclave l D dI ad _ a1  h sz) (cwS 1 X.1.2.2.2.2 (gwS w_194 w_195 w_1 w_196) rfl rfl rfl (by decide +kernel) ⟨by decide, by decide⟩) rfl hl.1 rfl (Nat.le_of_ble_eq_true rfl) ⟨Nat.zero_le _, Nat.zero_le _⟩ d_W_destroy_1 (fun r1 s2 ho3 => ?_)
  refine gg_show_i ?_
  refine gg_if_ne X 4 10 d_W_destroy_4 rfl (fun _ => ?_) (fun _ => ?_)
  · refine gg_aload_n X 10 d_W_destroy_10 rfl (lv_at hl 0 rfl) ?_
    refine gg_get_W_enclaves X 11 (Or.inl (List.mem_cons_of_mem _ w_83)) d_W_destroy_11 ?_
    refine gg_iload_n X 14 d_W_destroy_14 rfl (lv_at hl 1 rfl) ?_
    refine gg_ald_ENA X 15 d_W_destroy_15 (fun hi4 => ?_)
    refine gg_get_V_state X 16 (ixb hi4) (Or.inr ⟨_, nw_9⟩) d_W_destroy_16 ?_
    refine gg_istore_n X 19 (fun v5 => [(2, .int v5), (0, .ref (ad 0)), (1, .int a1)]) d_W_destroy_19 rfl hl (by decide) (fun _ => rfl) (fun v5 ls hl => ?_)
    refine gg_iload_n X 20 d_W_destroy_20 rfl (lv_at hl 0 rfl) ?_
    refine gg_if_eq X 21 29 d_W_destroy_21 rfl (fun _ => ?_) (fun _ => ?_)
    · exact t_W_destroy_29 X s2 _  (lv_sub hl [] rfl)
    · refine gg_iload_n X 24 d_W_destroy_24 rfl (lv_at hl 0 rfl) ?_
      refine gg_iconst X 25 (2 : Int32) d_W_destroy_25 (by decide) ?_
      refine gg_icmp_ne X 26 32 d_W_destroy_26 rfl (fun _ => ?_) (fun _ => ?_)
      · refine gg_iconst X 32 (0 : Int32) d_W_destroy_32 (by decide) ?_
        refine gg_istore_n X 33 (fun v6 => [(3, .int v6), (2, .int v5), (0, .ref (ad 0)), (1, .int a1)]) d_W_destroy_33 rfl hl (by decide) (fun _ => rfl) (fun v6 ls hl => ?_)
        exact t_W_destroy_34 X fu a1 v6 s2 _  (lv_sub hl [2, 3, 0] rfl)
      · exact t_W_destroy_29 X s2 _  (lv_sub hl [] rfl)
  · refine gg_bipush X 7 (-2 : Int32) d_W_destroy_7 (by decide) ?_
    exact gg_iret X 9 d_W_destroy_9
theorem M_W_destroy (l : Launch) (D : va_G) (dI : Nat → ClassId) (ad : Nat → Nat) (s : eS) (a1 : Int32)  {r : Int32} {s' : eS} (h : f_W_destroy a1 s = some (r, s')) (sz : Nat) : Met l y_W_destroy (Cond.code y_W_destroy prog_1_method_53_code 4 (some .int) :: WS) rm_W_destroy (Px (wE dI ad) D vwCl (tyE dI) nwE sz s [.ref (ad 0), .int a1]) (Qx rvI (wE dI ad) D vwCl (tyE dI) (va_A ((wE dI ad) s) sz) r s') 0 0 (va_A ((wE dI ad) s) sz) :=
  met_of [.ref (ad 0), .int a1] (by decide) rfl rfl (Nat.le_of_ble_eq_true rfl) h (fun p e s0 m args below meth c A ls X hl => t_W_destroy X a1 s ls  hl)
