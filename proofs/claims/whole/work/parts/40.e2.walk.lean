set_option maxHeartbeats 4000000 in
set_option maxRecDepth 100000 in
theorem t_W_claim {p : Program} {l : Launch} {e : Env} {s0 : State} {m : MethodId} {args : Array Value} {below : List Frame} {meth : Method} {c : Code} {D : va_G} {A : Nat → Prop} {dI : Nat → ClassId} {ad : Nat → Nat} (X : CX p s0 m args meth c D vwCl (tyE dI) nwE A prog_1_method_54_code 2 (some .int) (Cond.code y_W_claim prog_1_method_54_code 2 (some .int) :: WS) R_W) (a1 : Int32) (s : eS) (ls : Array Slot)  (hl : lv_has ls 2 [(0, .ref (ad 0)), (1, .int a1)]) : GG p l e rm_W_claim s0 m args below meth c D vwCl (tyE dI) A (wE dI ad) 0 0 (QM below args s0 D vwCl (tyE dI) A (wE dI ad) rvI) (f_W_claim a1 s) (F0 m 0 ls []) s := by
  unfold f_W_claim
  refine gg_iload_n X 0 d_W_claim_0 rfl (lv_at hl 1 rfl) ?_
  refine gg_callS X 1 nwOk_E [.int a1] [] (fun _ _ h sz => M_W_isRegion l D dI ad _ a1  h sz) (cwS 1 X.1.2.2.2.2 (gwS w_170 w_171 w_1 w_172) rfl rfl rfl (by decide +kernel) ⟨by decide, by decide⟩) rfl hl.1 rfl (Nat.le_of_ble_eq_true rfl) ⟨Nat.zero_le _, Nat.zero_le _⟩ d_W_claim_1 (fun r1 s2 ho3 => ?_)
  refine gg_show_i ?_
  refine gg_if_ne X 4 10 d_W_claim_4 rfl (fun _ => ?_) (fun _ => ?_)
  · refine gg_aload_n X 10 d_W_claim_10 rfl (lv_at hl 0 rfl) ?_
    refine gg_get_W_kinds X 11 (Or.inl (List.mem_cons_of_mem _ w_82)) d_W_claim_11 ?_
    refine gg_iload_n X 14 d_W_claim_14 rfl (lv_at hl 1 rfl) ?_
    refine gg_ald_KIN X 15 d_W_claim_15 ?_
    refine gg_if_eq X 16 22 d_W_claim_16 rfl (fun _ => ?_) (fun _ => ?_)
    · refine gg_aload_n X 22 d_W_claim_22 rfl (lv_at hl 0 rfl) ?_
      refine gg_get_W_kinds X 23 (Or.inl (List.mem_cons_of_mem _ w_82)) d_W_claim_23 ?_
      refine gg_iload_n X 26 d_W_claim_26 rfl (lv_at hl 1 rfl) ?_
      refine gg_iconst X 27 (1 : Int32) d_W_claim_27 (by decide) ?_
      refine gg_ast_KIN X 28 d_W_claim_28 (fun s4 => ?_)
      refine gg_iconst X 29 (0 : Int32) d_W_claim_29 (by decide) ?_
      exact gg_iret X 30 d_W_claim_30
    · refine gg_bipush X 19 (-4 : Int32) d_W_claim_19 (by decide) ?_
      exact gg_iret X 21 d_W_claim_21
  · refine gg_bipush X 7 (-2 : Int32) d_W_claim_7 (by decide) ?_
    exact gg_iret X 9 d_W_claim_9
theorem M_W_claim (l : Launch) (D : va_G) (dI : Nat → ClassId) (ad : Nat → Nat) (s : eS) (a1 : Int32)  {r : Int32} {s' : eS} (h : f_W_claim a1 s = some (r, s')) (sz : Nat) : Met l y_W_claim (Cond.code y_W_claim prog_1_method_54_code 2 (some .int) :: WS) rm_W_claim (Px (wE dI ad) D vwCl (tyE dI) nwE sz s [.ref (ad 0), .int a1]) (Qx rvI (wE dI ad) D vwCl (tyE dI) (va_A ((wE dI ad) s) sz) r s') 0 0 (va_A ((wE dI ad) s) sz) :=
  met_of [.ref (ad 0), .int a1] (by decide) rfl rfl (Nat.le_of_ble_eq_true rfl) h (fun p e s0 m args below meth c A ls X hl => t_W_claim X a1 s ls  hl)
set_option maxHeartbeats 4000000 in
set_option maxRecDepth 100000 in
theorem t_W_giveUp {p : Program} {l : Launch} {e : Env} {s0 : State} {m : MethodId} {args : Array Value} {below : List Frame} {meth : Method} {c : Code} {D : va_G} {A : Nat → Prop} {dI : Nat → ClassId} {ad : Nat → Nat} (X : CX p s0 m args meth c D vwCl (tyE dI) nwE A prog_1_method_55_code 2 (some .int) (Cond.code y_W_giveUp prog_1_method_55_code 2 (some .int) :: WS) R_W) (a1 : Int32) (s : eS) (ls : Array Slot)  (hl : lv_has ls 2 [(0, .ref (ad 0)), (1, .int a1)]) : GG p l e rm_W_giveUp s0 m args below meth c D vwCl (tyE dI) A (wE dI ad) 0 0 (QM below args s0 D vwCl (tyE dI) A (wE dI ad) rvI) (f_W_giveUp a1 s) (F0 m 0 ls []) s := by
  unfold f_W_giveUp
  refine gg_iload_n X 0 d_W_giveUp_0 rfl (lv_at hl 1 rfl) ?_
  refine gg_callS X 1 nwOk_E [.int a1] [] (fun _ _ h sz => M_W_isRegion l D dI ad _ a1  h sz) (cwS 1 X.1.2.2.2.2 (gwS w_170 w_171 w_1 w_172) rfl rfl rfl (by decide +kernel) ⟨by decide, by decide⟩) rfl hl.1 rfl (Nat.le_of_ble_eq_true rfl) ⟨Nat.zero_le _, Nat.zero_le _⟩ d_W_giveUp_1 (fun r1 s2 ho3 => ?_)
  refine gg_show_i ?_
  refine gg_if_ne X 4 10 d_W_giveUp_4 rfl (fun _ => ?_) (fun _ => ?_)
  · refine gg_aload_n X 10 d_W_giveUp_10 rfl (lv_at hl 0 rfl) ?_
    refine gg_get_W_kinds X 11 (Or.inl (List.mem_cons_of_mem _ w_82)) d_W_giveUp_11 ?_
    refine gg_iload_n X 14 d_W_giveUp_14 rfl (lv_at hl 1 rfl) ?_
    refine gg_ald_KIN X 15 d_W_giveUp_15 ?_
    refine gg_iconst X 16 (1 : Int32) d_W_giveUp_16 (by decide) ?_
    refine gg_icmp_eq X 17 23 d_W_giveUp_17 rfl (fun _ => ?_) (fun _ => ?_)
    · refine gg_aload_n X 23 d_W_giveUp_23 rfl (lv_at hl 0 rfl) ?_
      refine gg_iload_n X 24 d_W_giveUp_24 rfl (lv_at hl 1 rfl) ?_
      refine gg_callV X 25 nwOk_E [.int a1] [] (fun _ _ h sz => M_W_free l D dI ad _ a1  h sz) (cwV 1 X.1.2.2.2.2 (gwV w_249 w_251 ws_W_free w_1 w_252) rfl rfl rfl (by decide +kernel) ⟨by decide, by decide⟩) (he_E_Main) rfl rfl hl.1 rfl (Nat.le_of_ble_eq_true rfl) ⟨Nat.zero_le _, Nat.zero_le _⟩ d_W_giveUp_25 (fun r4 s5 ho6 => ?_)
      refine gg_show_v ?_
      refine gg_iconst X 28 (0 : Int32) d_W_giveUp_28 (by decide) ?_
      exact gg_iret X 29 d_W_giveUp_29
    · refine gg_bipush X 20 (-4 : Int32) d_W_giveUp_20 (by decide) ?_
      exact gg_iret X 22 d_W_giveUp_22
  · refine gg_bipush X 7 (-2 : Int32) d_W_giveUp_7 (by decide) ?_
    exact gg_iret X 9 d_W_giveUp_9
theorem M_W_giveUp (l : Launch) (D : va_G) (dI : Nat → ClassId) (ad : Nat → Nat) (s : eS) (a1 : Int32)  {r : Int32} {s' : eS} (h : f_W_giveUp a1 s = some (r, s')) (sz : Nat) : Met l y_W_giveUp (Cond.code y_W_giveUp prog_1_method_55_code 2 (some .int) :: WS) rm_W_giveUp (Px (wE dI ad) D vwCl (tyE dI) nwE sz s [.ref (ad 0), .int a1]) (Qx rvI (wE dI ad) D vwCl (tyE dI) (va_A ((wE dI ad) s) sz) r s') 0 0 (va_A ((wE dI ad) s) sz) :=
  met_of [.ref (ad 0), .int a1] (by decide) rfl rfl (Nat.le_of_ble_eq_true rfl) h (fun p e s0 m args below meth c A ls X hl => t_W_giveUp X a1 s ls  hl)
set_option maxHeartbeats 4000000 in
set_option maxRecDepth 100000 in
theorem t_W_systemCall {p : Program} {l : Launch} {e : Env} {s0 : State} {m : MethodId} {args : Array Value} {below : List Frame} {meth : Method} {c : Code} {D : va_G} {A : Nat → Prop} {dI : Nat → ClassId} {ad : Nat → Nat} (X : CX p s0 m args meth c D vwCl (tyE dI) nwE A prog_1_method_39_code 5 (some .int) (Cond.code y_W_systemCall prog_1_method_39_code 5 (some .int) :: WS) R_W) (a1 : Int32) (a2 : Int32) (a3 : Int32) (a4 : Int32) (s : eS) (ls : Array Slot)  (hl : lv_has ls 5 [(0, .ref (ad 0)), (1, .int a1), (2, .int a2), (3, .int a3), (4, .int a4)]) : GG p l e rm_W_systemCall s0 m args below meth c D vwCl (tyE dI) A (wE dI ad) 0 0 (QM below args s0 D vwCl (tyE dI) A (wE dI ad) rvI) (f_W_systemCall a1 a2 a3 a4 s) (F0 m 0 ls []) s := by
  unfold f_W_systemCall
  refine gg_iload_n X 0 d_W_systemCall_0 rfl (lv_at hl 1 rfl) ?_
  refine gg_eqc (fun h1 => ?_) (fun h1 => ?_)
  · refine gg_tin X 1 60 d_W_systemCall_1 h1 (by decide) (by decide) rfl rfl ?_
    refine gg_aload_n X 60 d_W_systemCall_60 rfl (lv_at hl 0 rfl) ?_
    refine gg_iload_n X 61 d_W_systemCall_61 rfl (lv_at hl 2 rfl) ?_
    refine gg_iload_n X 62 d_W_systemCall_62 rfl (lv_at hl 3 rfl) ?_
    refine gg_callV X 63 nwOk_E [.int a2, .int a3] [] (fun _ _ h sz => M_W_create l D dI ad _ a2 a3  h sz) (cwV 2 X.1.2.2.2.2 (gwV w_166 w_168 ws_W_create w_1 w_169) rfl rfl rfl (by decide +kernel) ⟨by decide, by decide⟩) (he_E_Main) rfl rfl hl.1 rfl (Nat.le_of_ble_eq_true rfl) ⟨Nat.zero_le _, Nat.zero_le _⟩ d_W_systemCall_63 (fun r2 s3 ho4 => ?_)
    refine gg_show_i ?_
    exact gg_iret X 66 d_W_systemCall_66
  refine gg_eqc (fun h5 => ?_) (fun h5 => ?_)
  · refine gg_tin X 1 67 d_W_systemCall_1 h5 (by decide) (by decide) rfl rfl ?_
    refine gg_aload_n X 67 d_W_systemCall_67 rfl (lv_at hl 0 rfl) ?_
    refine gg_iload_n X 68 d_W_systemCall_68 rfl (lv_at hl 2 rfl) ?_
    refine gg_iload_n X 69 d_W_systemCall_69 rfl (lv_at hl 3 rfl) ?_
    refine gg_iload X 70 d_W_systemCall_70 (lv_at hl 4 rfl) ?_
    refine gg_callV X 72 nwOk_E [.int a2, .int a3, .int a4] [] (fun _ _ h sz => M_W_load l D dI ad _ a2 a3 a4  h sz) (cwV 3 X.1.2.2.2.2 (gwV w_190 w_192 ws_W_load w_1 w_193) rfl rfl rfl (by decide +kernel) ⟨by decide, by decide⟩) (he_E_Main) rfl rfl hl.1 rfl (Nat.le_of_ble_eq_true rfl) ⟨Nat.zero_le _, Nat.zero_le _⟩ d_W_systemCall_72 (fun r6 s7 ho8 => ?_)
    refine gg_show_i ?_
    exact gg_iret X 75 d_W_systemCall_75
  refine gg_eqc (fun h9 => ?_) (fun h9 => ?_)
  · refine gg_tin X 1 76 d_W_systemCall_1 h9 (by decide) (by decide) rfl rfl ?_
    refine gg_aload_n X 76 d_W_systemCall_76 rfl (lv_at hl 0 rfl) ?_
    refine gg_iload_n X 77 d_W_systemCall_77 rfl (lv_at hl 2 rfl) ?_
    refine gg_iload_n X 78 d_W_systemCall_78 rfl (lv_at hl 3 rfl) ?_
    refine gg_callV X 79 nwOk_E [.int a2, .int a3] [] (fun _ _ h sz => M_W_addThread l D dI ad _ a2 a3  h sz) (cwV 2 X.1.2.2.2.2 (gwV w_197 w_199 ws_W_addThread w_1 w_200) rfl rfl rfl (by decide +kernel) ⟨by decide, by decide⟩) (he_E_Main) rfl rfl hl.1 rfl (Nat.le_of_ble_eq_true rfl) ⟨Nat.zero_le _, Nat.zero_le _⟩ d_W_systemCall_79 (fun r10 s11 ho12 => ?_)
    refine gg_show_i ?_
    exact gg_iret X 82 d_W_systemCall_82
  refine gg_eqc (fun h13 => ?_) (fun h13 => ?_)
  · refine gg_tin X 1 83 d_W_systemCall_1 h13 (by decide) (by decide) rfl rfl ?_
    refine gg_aload_n X 83 d_W_systemCall_83 rfl (lv_at hl 0 rfl) ?_
    refine gg_iload_n X 84 d_W_systemCall_84 rfl (lv_at hl 2 rfl) ?_
    refine gg_callV X 85 nwOk_E [.int a2] [] (fun _ _ h sz => M_W_seal l D dI ad _ a2  h sz) (cwV 1 X.1.2.2.2.2 (gwV w_205 w_207 ws_W_seal w_1 w_208) rfl rfl rfl (by decide +kernel) ⟨by decide, by decide⟩) (he_E_Main) rfl rfl hl.1 rfl (Nat.le_of_ble_eq_true rfl) ⟨Nat.zero_le _, Nat.zero_le _⟩ d_W_systemCall_85 (fun r14 s15 ho16 => ?_)
    refine gg_show_i ?_
    exact gg_iret X 88 d_W_systemCall_88
  refine gg_eqc (fun h17 => ?_) (fun h17 => ?_)
  · refine gg_tin X 1 89 d_W_systemCall_1 h17 (by decide) (by decide) rfl rfl ?_
    refine gg_aload_n X 89 d_W_systemCall_89 rfl (lv_at hl 0 rfl) ?_
    refine gg_iload_n X 90 d_W_systemCall_90 rfl (lv_at hl 2 rfl) ?_
    refine gg_iload_n X 91 d_W_systemCall_91 rfl (lv_at hl 3 rfl) ?_
    refine gg_callV X 92 nwOk_E [.int a2, .int a3] [] (fun _ _ h sz => M_W_share l D dI ad _ a2 a3  h sz) (cwV 2 X.1.2.2.2.2 (gwV w_209 w_211 ws_W_share w_1 w_212) rfl rfl rfl (by decide +kernel) ⟨by decide, by decide⟩) (he_E_Main) rfl rfl hl.1 rfl (Nat.le_of_ble_eq_true rfl) ⟨Nat.zero_le _, Nat.zero_le _⟩ d_W_systemCall_92 (fun r18 s19 ho20 => ?_)
    refine gg_show_i ?_
    exact gg_iret X 95 d_W_systemCall_95
  refine gg_eqc (fun h21 => ?_) (fun h21 => ?_)
  · refine gg_tin X 1 96 d_W_systemCall_1 h21 (by decide) (by decide) rfl rfl ?_
    refine gg_aload_n X 96 d_W_systemCall_96 rfl (lv_at hl 0 rfl) ?_
    refine gg_iload_n X 97 d_W_systemCall_97 rfl (lv_at hl 2 rfl) ?_
    refine gg_iload_n X 98 d_W_systemCall_98 rfl (lv_at hl 3 rfl) ?_
    refine gg_iload X 99 d_W_systemCall_99 (lv_at hl 4 rfl) ?_
    refine gg_callV X 101 nwOk_E [.int a2, .int a3, .int a4] [] (fun _ _ h sz => M_W_enter l D dI ad _ a2 a3 a4  h sz) (cwV 3 X.1.2.2.2.2 (gwV w_217 w_219 ws_W_enter w_1 w_220) rfl rfl rfl (by decide +kernel) ⟨by decide, by decide⟩) (he_E_Main) rfl rfl hl.1 rfl (Nat.le_of_ble_eq_true rfl) ⟨Nat.zero_le _, Nat.zero_le _⟩ d_W_systemCall_101 (fun r22 s23 ho24 => ?_)
    refine gg_show_i ?_
    exact gg_iret X 104 d_W_systemCall_104
  refine gg_eqc (fun h25 => ?_) (fun h25 => ?_)
  · refine gg_tin X 1 105 d_W_systemCall_1 h25 (by decide) (by decide) rfl rfl ?_
    refine gg_aload_n X 105 d_W_systemCall_105 rfl (lv_at hl 0 rfl) ?_
    refine gg_iload_n X 106 d_W_systemCall_106 rfl (lv_at hl 2 rfl) ?_
    refine gg_iload_n X 107 d_W_systemCall_107 rfl (lv_at hl 3 rfl) ?_
    refine gg_callV X 108 nwOk_E [.int a2, .int a3] [] (fun _ _ h sz => M_W_resume l D dI ad _ a2 a3  h sz) (cwV 2 X.1.2.2.2.2 (gwV w_237 w_239 ws_W_resume w_1 w_240) rfl rfl rfl (by decide +kernel) ⟨by decide, by decide⟩) (he_E_Main) rfl rfl hl.1 rfl (Nat.le_of_ble_eq_true rfl) ⟨Nat.zero_le _, Nat.zero_le _⟩ d_W_systemCall_108 (fun r26 s27 ho28 => ?_)
    refine gg_show_i ?_
    exact gg_iret X 111 d_W_systemCall_111
  refine gg_eqc (fun h29 => ?_) (fun h29 => ?_)
  · refine gg_tin X 1 112 d_W_systemCall_1 h29 (by decide) (by decide) rfl rfl ?_
    refine gg_aload_n X 112 d_W_systemCall_112 rfl (lv_at hl 0 rfl) ?_
    refine gg_iload_n X 113 d_W_systemCall_113 rfl (lv_at hl 2 rfl) ?_
    refine gg_callV X 114 nwOk_E [.int a2] [] (fun _ _ h sz => M_W_stop l D dI ad _ a2  h sz) (cwV 1 X.1.2.2.2.2 (gwV w_241 w_243 ws_W_stop w_1 w_244) rfl rfl rfl (by decide +kernel) ⟨by decide, by decide⟩) (he_E_Main) rfl rfl hl.1 rfl (Nat.le_of_ble_eq_true rfl) ⟨Nat.zero_le _, Nat.zero_le _⟩ d_W_systemCall_114 (fun r30 s31 ho32 => ?_)
    refine gg_show_i ?_
    exact gg_iret X 117 d_W_systemCall_117
  refine gg_eqc (fun h33 => ?_) (fun h33 => ?_)
  · refine gg_tin X 1 118 d_W_systemCall_1 h33 (by decide) (by decide) rfl rfl ?_
    refine gg_aload_n X 118 d_W_systemCall_118 rfl (lv_at hl 0 rfl) ?_
    refine gg_iload_n X 119 d_W_systemCall_119 rfl (lv_at hl 2 rfl) ?_
    refine gg_callV X 120 nwOk_E [.int a2] [] (fun _ _ h sz => M_W_destroy l D dI ad _ a2  h sz) (cwV 1 X.1.2.2.2.2 (gwV w_245 w_247 ws_W_destroy w_1 w_248) rfl rfl rfl (by decide +kernel) ⟨by decide, by decide⟩) (he_E_Main) rfl rfl hl.1 rfl (Nat.le_of_ble_eq_true rfl) ⟨Nat.zero_le _, Nat.zero_le _⟩ d_W_systemCall_120 (fun r34 s35 ho36 => ?_)
    refine gg_show_i ?_
    exact gg_iret X 123 d_W_systemCall_123
  refine gg_eqc (fun h37 => ?_) (fun h37 => ?_)
  · refine gg_tin X 1 124 d_W_systemCall_1 h37 (by decide) (by decide) rfl rfl ?_
    refine gg_aload_n X 124 d_W_systemCall_124 rfl (lv_at hl 0 rfl) ?_
    refine gg_iload_n X 125 d_W_systemCall_125 rfl (lv_at hl 2 rfl) ?_
    refine gg_callV X 126 nwOk_E [.int a2] [] (fun _ _ h sz => M_W_claim l D dI ad _ a2  h sz) (cwV 1 X.1.2.2.2.2 (gwV w_253 w_255 ws_W_claim w_1 w_256) rfl rfl rfl (by decide +kernel) ⟨by decide, by decide⟩) (he_E_Main) rfl rfl hl.1 rfl (Nat.le_of_ble_eq_true rfl) ⟨Nat.zero_le _, Nat.zero_le _⟩ d_W_systemCall_126 (fun r38 s39 ho40 => ?_)
    refine gg_show_i ?_
    exact gg_iret X 129 d_W_systemCall_129
  refine gg_eqc (fun h41 => ?_) (fun h41 => ?_)
  · refine gg_tin X 1 130 d_W_systemCall_1 h41 (by decide) (by decide) rfl rfl ?_
    refine gg_aload_n X 130 d_W_systemCall_130 rfl (lv_at hl 0 rfl) ?_
    refine gg_iload_n X 131 d_W_systemCall_131 rfl (lv_at hl 2 rfl) ?_
    refine gg_callV X 132 nwOk_E [.int a2] [] (fun _ _ h sz => M_W_giveUp l D dI ad _ a2  h sz) (cwV 1 X.1.2.2.2.2 (gwV w_257 w_259 ws_W_giveUp w_1 w_260) rfl rfl rfl (by decide +kernel) ⟨by decide, by decide⟩) (he_E_Main) rfl rfl hl.1 rfl (Nat.le_of_ble_eq_true rfl) ⟨Nat.zero_le _, Nat.zero_le _⟩ d_W_systemCall_132 (fun r42 s43 ho44 => ?_)
    refine gg_show_i ?_
    exact gg_iret X 135 d_W_systemCall_135
  refine gg_tout X 1 136 d_W_systemCall_1 (by have q0 := lv_neT (a := 1) h1 (by decide); have q1 := lv_neT (a := 2) h5 (by decide); have q2 := lv_neT (a := 3) h9 (by decide); have q3 := lv_neT (a := 4) h13 (by decide); have q4 := lv_neT (a := 5) h17 (by decide); have q5 := lv_neT (a := 6) h21 (by decide); have q6 := lv_neT (a := 7) h25 (by decide); have q7 := lv_neT (a := 8) h29 (by decide); have q8 := lv_neT (a := 9) h33 (by decide); have q9 := lv_neT (a := 10) h37 (by decide); have q10 := lv_neT (a := 11) h41 (by decide); omega) rfl ?_
  refine gg_iconst X 136 (-1 : Int32) d_W_systemCall_136 (by decide) ?_
  exact gg_iret X 137 d_W_systemCall_137
theorem M_W_systemCall (l : Launch) (D : va_G) (dI : Nat → ClassId) (ad : Nat → Nat) (s : eS) (a1 : Int32) (a2 : Int32) (a3 : Int32) (a4 : Int32)  {r : Int32} {s' : eS} (h : f_W_systemCall a1 a2 a3 a4 s = some (r, s')) (sz : Nat) : Met l y_W_systemCall (Cond.code y_W_systemCall prog_1_method_39_code 5 (some .int) :: WS) rm_W_systemCall (Px (wE dI ad) D vwCl (tyE dI) nwE sz s [.ref (ad 0), .int a1, .int a2, .int a3, .int a4]) (Qx rvI (wE dI ad) D vwCl (tyE dI) (va_A ((wE dI ad) s) sz) r s') 0 0 (va_A ((wE dI ad) s) sz) :=
  met_of [.ref (ad 0), .int a1, .int a2, .int a3, .int a4] (by decide) rfl rfl (Nat.le_of_ble_eq_true rfl) h (fun p e s0 m args below meth c A ls X hl => t_W_systemCall X a1 a2 a3 a4 s ls  hl)
set_option maxHeartbeats 4000000 in
set_option maxRecDepth 100000 in
theorem t_W_call {p : Program} {l : Launch} {e : Env} {s0 : State} {m : MethodId} {args : Array Value} {below : List Frame} {meth : Method} {c : Code} {D : va_G} {A : Nat → Prop} {dI : Nat → ClassId} {ad : Nat → Nat} (X : CX p s0 m args meth c D vwCl (tyE dI) nwE A prog_1_method_10_code 5 (some .int) (Cond.code y_W_call prog_1_method_10_code 5 (some .int) :: WS) R_W) (a1 : Int32) (a2 : Int32) (a3 : Int32) (a4 : Int32) (s : eS) (ls : Array Slot)  (hl : lv_has ls 5 [(0, .ref (ad 0)), (1, .int a1), (2, .int a2), (3, .int a3), (4, .int a4)]) : GG p l e rm_W_call s0 m args below meth c D vwCl (tyE dI) A (wE dI ad) 0 0 (QM below args s0 D vwCl (tyE dI) A (wE dI ad) rvI) (f_W_call a1 a2 a3 a4 s) (F0 m 0 ls []) s := by
  unfold f_W_call
  refine gg_aload_n X 0 d_W_call_0 rfl (lv_at hl 0 rfl) ?_
  refine gg_get_W_running X 1 (Or.inl (List.mem_cons_of_mem _ w_87)) d_W_call_1 ?_
  refine gg_iconst X 4 (-1 : Int32) d_W_call_4 (by decide) ?_
  refine gg_icmp_ne X 5 20 d_W_call_5 rfl (fun _ => ?_) (fun _ => ?_)
  · refine gg_bipush X 20 (-6 : Int32) d_W_call_20 (by decide) ?_
    exact gg_iret X 22 d_W_call_22
  · refine gg_aload_n X 8 d_W_call_8 rfl (lv_at hl 0 rfl) ?_
    refine gg_iload_n X 9 d_W_call_9 rfl (lv_at hl 1 rfl) ?_
    refine gg_iload_n X 10 d_W_call_10 rfl (lv_at hl 2 rfl) ?_
    refine gg_iload_n X 11 d_W_call_11 rfl (lv_at hl 3 rfl) ?_
    refine gg_iload X 12 d_W_call_12 (lv_at hl 4 rfl) ?_
    refine gg_callV X 14 nwOk_E [.int a1, .int a2, .int a3, .int a4] [] (fun _ _ h sz => M_W_systemCall l D dI ad _ a1 a2 a3 a4  h sz) (cwV 4 X.1.2.2.2.2 (gwV w_162 w_164 ws_W_systemCall w_1 w_165) rfl rfl rfl (by decide +kernel) ⟨by decide, by decide⟩) (he_E_Main) rfl rfl hl.1 rfl (Nat.le_of_ble_eq_true rfl) ⟨Nat.zero_le _, Nat.zero_le _⟩ d_W_call_14 (fun r1 s2 ho3 => ?_)
    refine gg_show_i ?_
    refine gg_goto X 17 22 d_W_call_17 rfl ?_
    exact gg_iret X 22 d_W_call_22
theorem M_W_call (l : Launch) (D : va_G) (dI : Nat → ClassId) (ad : Nat → Nat) (s : eS) (a1 : Int32) (a2 : Int32) (a3 : Int32) (a4 : Int32)  {r : Int32} {s' : eS} (h : f_W_call a1 a2 a3 a4 s = some (r, s')) (sz : Nat) : Met l y_W_call (Cond.code y_W_call prog_1_method_10_code 5 (some .int) :: WS) rm_W_call (Px (wE dI ad) D vwCl (tyE dI) nwE sz s [.ref (ad 0), .int a1, .int a2, .int a3, .int a4]) (Qx rvI (wE dI ad) D vwCl (tyE dI) (va_A ((wE dI ad) s) sz) r s') 0 0 (va_A ((wE dI ad) s) sz) :=
  met_of [.ref (ad 0), .int a1, .int a2, .int a3, .int a4] (by decide) rfl rfl (Nat.le_of_ble_eq_true rfl) h (fun p e s0 m args below meth c A ls X hl => t_W_call X a1 a2 a3 a4 s ls  hl)
set_option maxHeartbeats 4000000 in
set_option maxRecDepth 100000 in
theorem t_W_runningThread {p : Program} {l : Launch} {e : Env} {s0 : State} {m : MethodId} {args : Array Value} {below : List Frame} {meth : Method} {c : Code} {D : va_G} {A : Nat → Prop} {dI : Nat → ClassId} {ad : Nat → Nat} (X : CX p s0 m args meth c D vwCl (tyE dI) nwE A prog_1_method_31_code 1 (some (.object "EnclaveWarden$EnclaveThread")) (Cond.code y_W_runningThread prog_1_method_31_code 1 (some (.object "EnclaveWarden$EnclaveThread")) :: WS) R_W)  (s : eS) (ls : Array Slot)  (hl : lv_has ls 1 [(0, .ref (ad 0))]) : GG p l e rm_W_runningThread s0 m args below meth c D vwCl (tyE dI) A (wE dI ad) 0 0 (QM below args s0 D vwCl (tyE dI) A (wE dI ad) (rvR ad 11)) (f_W_runningThread s) (F0 m 0 ls []) s := by
  unfold f_W_runningThread
  refine gg_aload_n X 0 d_W_runningThread_0 rfl (lv_at hl 0 rfl) ?_
  refine gg_get_W_enclaves X 1 (Or.inl (List.mem_cons_of_mem _ w_83)) d_W_runningThread_1 ?_
  refine gg_aload_n X 4 d_W_runningThread_4 rfl (lv_at hl 0 rfl) ?_
  refine gg_get_W_running X 5 (Or.inl (List.mem_cons_of_mem _ w_87)) d_W_runningThread_5 ?_
  refine gg_iconst X 8 (2 : Int32) d_W_runningThread_8 (by decide) ?_
  refine gg_idivk X 9 d_W_runningThread_9 (by decide) ?_
  refine gg_ald_ENA X 10 d_W_runningThread_10 (fun hi1 => ?_)
  refine gg_get_V_threads X 11 (ixb hi1) (Or.inr ⟨_, nw_8⟩) d_W_runningThread_11 ?_
  refine gg_aload_n X 14 d_W_runningThread_14 rfl (lv_at hl 0 rfl) ?_
  refine gg_get_W_running X 15 (Or.inl (List.mem_cons_of_mem _ w_87)) d_W_runningThread_15 ?_
  refine gg_iconst X 18 (2 : Int32) d_W_runningThread_18 (by decide) ?_
  refine gg_iremk X 19 d_W_runningThread_19 (by decide) ?_
  refine gg_ald_TA X 20 (ixb hi1) d_W_runningThread_20 (fun hi2 => ?_)
  exact gg_aret X 21 d_W_runningThread_21
theorem M_W_runningThread (l : Launch) (D : va_G) (dI : Nat → ClassId) (ad : Nat → Nat) (s : eS)   {r : Nat} {s' : eS} (h : f_W_runningThread s = some (r, s')) (sz : Nat) : Met l y_W_runningThread (Cond.code y_W_runningThread prog_1_method_31_code 1 (some (.object "EnclaveWarden$EnclaveThread")) :: WS) rm_W_runningThread (Px (wE dI ad) D vwCl (tyE dI) nwE sz s [.ref (ad 0)]) (Qx (rvR ad 11) (wE dI ad) D vwCl (tyE dI) (va_A ((wE dI ad) s) sz) r s') 0 0 (va_A ((wE dI ad) s) sz) :=
  met_of [.ref (ad 0)] (by decide) rfl rfl (Nat.le_of_ble_eq_true rfl) h (fun p e s0 m args below meth c A ls X hl => t_W_runningThread X s ls  hl)
set_option maxHeartbeats 4000000 in
set_option maxRecDepth 100000 in
theorem t_W_leave {p : Program} {l : Launch} {e : Env} {s0 : State} {m : MethodId} {args : Array Value} {below : List Frame} {meth : Method} {c : Code} {D : va_G} {A : Nat → Prop} {dI : Nat → ClassId} {ad : Nat → Nat} (X : CX p s0 m args meth c D vwCl (tyE dI) nwE A prog_1_method_37_code 4 none (Cond.code y_W_leave prog_1_method_37_code 4 none :: WS) R_W) (a1 : Int32) (a2 : Int32) (a3 : Int32) (s : eS) (ls : Array Slot)  (hl : lv_has ls 4 [(0, .ref (ad 0)), (1, .int a1), (2, .int a2), (3, .int a3)]) : GG p l e rm_W_leave s0 m args below meth c D vwCl (tyE dI) A (wE dI ad) 0 0 (QM below args s0 D vwCl (tyE dI) A (wE dI ad) rvV) (f_W_leave a1 a2 a3 s) (F0 m 0 ls []) s := by
  unfold f_W_leave
  refine gg_aload_n X 0 d_W_leave_0 rfl (lv_at hl 0 rfl) ?_
  refine gg_callV X 1 nwOk_E [] [] (fun _ _ h sz => M_W_runningThread l D dI ad _   h sz) (cwV 0 X.1.2.2.2.2 (gwV w_273 w_275 ws_W_runningThread w_1 w_276) rfl rfl rfl (by decide +kernel) ⟨by decide, by decide⟩) (he_E_Main) rfl rfl hl.1 rfl (Nat.le_of_ble_eq_true rfl) ⟨Nat.zero_le _, Nat.zero_le _⟩ d_W_leave_1 (fun r1 s2 ho3 => ?_)
  refine gg_show_r ?_
  refine gg_iload_n X 4 d_W_leave_4 rfl (lv_at hl 1 rfl) ?_
  refine gg_put_T_state X 5 (bd_runningThread ho3) (Or.inr ⟨_, nw_6⟩) d_W_leave_5 (fun s4 => ?_)
  refine gg_aload_n X 8 d_W_leave_8 rfl (lv_at hl 0 rfl) ?_
  refine gg_get_W_exits X 9 (Or.inl (List.mem_cons_of_mem _ w_85)) d_W_leave_9 ?_
  refine gg_iconst X 12 (0 : Int32) d_W_leave_12 (by decide) ?_
  refine gg_dup2 X 13 d_W_leave_13 rfl rfl ?_
  refine gg_ald_EXI X 14 d_W_leave_14 ?_
  refine gg_iconst X 15 (1 : Int32) d_W_leave_15 (by decide) ?_
  refine gg_iadd X 16 d_W_leave_16 ?_
  refine gg_ast_EXI X 17 d_W_leave_17 (fun s5 => ?_)
  refine gg_aload_n X 18 d_W_leave_18 rfl (lv_at hl 0 rfl) ?_
  refine gg_get_W_exits X 19 (Or.inl (List.mem_cons_of_mem _ w_85)) d_W_leave_19 ?_
  refine gg_iconst X 22 (1 : Int32) d_W_leave_22 (by decide) ?_
  refine gg_aload_n X 23 d_W_leave_23 rfl (lv_at hl 0 rfl) ?_
  refine gg_get_W_running X 24 (Or.inl (List.mem_cons_of_mem _ w_87)) d_W_leave_24 ?_
  refine gg_iconst X 27 (2 : Int32) d_W_leave_27 (by decide) ?_
  refine gg_idivk X 28 d_W_leave_28 (by decide) ?_
  refine gg_ast_EXI X 29 d_W_leave_29 (fun s6 => ?_)
  refine gg_aload_n X 30 d_W_leave_30 rfl (lv_at hl 0 rfl) ?_
  refine gg_get_W_exits X 31 (Or.inl (List.mem_cons_of_mem _ w_85)) d_W_leave_31 ?_
  refine gg_iconst X 34 (2 : Int32) d_W_leave_34 (by decide) ?_
  refine gg_iload_n X 35 d_W_leave_35 rfl (lv_at hl 2 rfl) ?_
  refine gg_ast_EXI X 36 d_W_leave_36 (fun s7 => ?_)
  refine gg_aload_n X 37 d_W_leave_37 rfl (lv_at hl 0 rfl) ?_
  refine gg_get_W_exits X 38 (Or.inl (List.mem_cons_of_mem _ w_85)) d_W_leave_38 ?_
  refine gg_iconst X 41 (3 : Int32) d_W_leave_41 (by decide) ?_
  refine gg_iload_n X 42 d_W_leave_42 rfl (lv_at hl 3 rfl) ?_
  refine gg_ast_EXI X 43 d_W_leave_43 (fun s8 => ?_)
  refine gg_aload_n X 44 d_W_leave_44 rfl (lv_at hl 0 rfl) ?_
  refine gg_get_W_exits X 45 (Or.inl (List.mem_cons_of_mem _ w_85)) d_W_leave_45 ?_
  refine gg_iconst X 48 (4 : Int32) d_W_leave_48 (by decide) ?_
  refine gg_aload_n X 49 d_W_leave_49 rfl (lv_at hl 0 rfl) ?_
  refine gg_get_W_tick X 50 (Or.inl (List.mem_cons_of_mem _ w_89)) d_W_leave_50 ?_
  refine gg_ast_EXI X 53 d_W_leave_53 (fun s9 => ?_)
  refine gg_aload_n X 54 d_W_leave_54 rfl (lv_at hl 0 rfl) ?_
  refine gg_iconst X 55 (-1 : Int32) d_W_leave_55 (by decide) ?_
  refine gg_put_W_running X 56 (Or.inl (List.mem_cons_of_mem _ w_87)) d_W_leave_56 (fun s10 => ?_)
  refine gg_aload_n X 59 d_W_leave_59 rfl (lv_at hl 0 rfl) ?_
  refine gg_get_W_system X 60 (Or.inl (List.mem_cons_of_mem _ w_84)) d_W_leave_60 ?_
  refine gg_iconst X 63 (1 : Int32) d_W_leave_63 (by decide) ?_
  refine gg_iload_n X 64 d_W_leave_64 rfl (lv_at hl 2 rfl) ?_
  refine gg_callVN X 65 nwOk_E [.int (1 : Int32), .int a2] [] (fun _ _ h sz => M_C_put l D dI ad _ 6 (1 : Int32) a2 (by decide) h sz) (⟨va_cnB 2 X.1.2.2.2.2 (gwB w_137) rfl rfl rfl (X.2.2.2.2.2 _ nw_13) (X.1.2.2.2.2 _ (List.mem_cons_of_mem _ w_4)) (by decide +kernel) ⟨by decide, by decide⟩, X.1.2.2.2.2 _ (List.mem_cons_of_mem _ w_136), X.1.2.2.2.2 _ (List.mem_cons_of_mem _ ws_C_put)⟩) (he_E_Core (by decide)) rfl rfl hl.1 rfl (Nat.le_of_ble_eq_true rfl) ⟨Nat.zero_le _, Nat.zero_le _⟩ d_W_leave_65 (fun r11 s12 ho13 => ?_)
  refine gg_show_v ?_
  refine gg_aload_n X 68 d_W_leave_68 rfl (lv_at hl 0 rfl) ?_
  refine gg_get_W_system X 69 (Or.inl (List.mem_cons_of_mem _ w_84)) d_W_leave_69 ?_
  refine gg_iconst X 72 (2 : Int32) d_W_leave_72 (by decide) ?_
  refine gg_iload_n X 73 d_W_leave_73 rfl (lv_at hl 3 rfl) ?_
  refine gg_callVN X 74 nwOk_E [.int (2 : Int32), .int a3] [] (fun _ _ h sz => M_C_put l D dI ad _ 6 (2 : Int32) a3 (by decide) h sz) (⟨va_cnB 2 X.1.2.2.2.2 (gwB w_137) rfl rfl rfl (X.2.2.2.2.2 _ nw_13) (X.1.2.2.2.2 _ (List.mem_cons_of_mem _ w_4)) (by decide +kernel) ⟨by decide, by decide⟩, X.1.2.2.2.2 _ (List.mem_cons_of_mem _ w_136), X.1.2.2.2.2 _ (List.mem_cons_of_mem _ ws_C_put)⟩) (he_E_Core (by decide)) rfl rfl hl.1 rfl (Nat.le_of_ble_eq_true rfl) ⟨Nat.zero_le _, Nat.zero_le _⟩ d_W_leave_74 (fun r14 s15 ho16 => ?_)
  refine gg_show_v ?_
  exact gg_vret X 77 d_W_leave_77
theorem M_W_leave (l : Launch) (D : va_G) (dI : Nat → ClassId) (ad : Nat → Nat) (s : eS) (a1 : Int32) (a2 : Int32) (a3 : Int32)  {r : Unit} {s' : eS} (h : f_W_leave a1 a2 a3 s = some (r, s')) (sz : Nat) : Met l y_W_leave (Cond.code y_W_leave prog_1_method_37_code 4 none :: WS) rm_W_leave (Px (wE dI ad) D vwCl (tyE dI) nwE sz s [.ref (ad 0), .int a1, .int a2, .int a3]) (Qx rvV (wE dI ad) D vwCl (tyE dI) (va_A ((wE dI ad) s) sz) r s') 0 0 (va_A ((wE dI ad) s) sz) :=
  met_of [.ref (ad 0), .int a1, .int a2, .int a3] (by decide) rfl rfl (Nat.le_of_ble_eq_true rfl) h (fun p e s0 m args below meth c A ls X hl => t_W_leave X a1 a2 a3 s ls  hl)
set_option maxHeartbeats 4000000 in
set_option maxRecDepth 100000 in
theorem t_W_enclaveMayUse_33 {p : Program} {l : Launch} {e : Env} {s0 : State} {m : MethodId} {args : Array Value} {below : List Frame} {meth : Method} {c : Code} {D : va_G} {A : Nat → Prop} {dI : Nat → ClassId} {ad : Nat → Nat} (X : CX p s0 m args meth c D vwCl (tyE dI) nwE A prog_1_method_29_code 4 (some .boolean) (Cond.code y_W_enclaveMayUse prog_1_method_29_code 4 (some .boolean) :: WS) R_W)  (s : eS) (ls : Array Slot)  (hl : lv_has ls 4 []) : GG p l e rm_W_enclaveMayUse s0 m args below meth c D vwCl (tyE dI) A (wE dI ad) 0 0 (QM below args s0 D vwCl (tyE dI) A (wE dI ad) rvI) (f_W_enclaveMayUse_33 s) (F0 m 33 ls []) s := by
  unfold f_W_enclaveMayUse_33
  refine gg_iconst X 33 (1 : Int32) d_W_enclaveMayUse_33 (by decide) ?_
  refine gg_goto X 34 38 d_W_enclaveMayUse_34 rfl ?_
  exact gg_zretk X 38 rfl d_W_enclaveMayUse_38
set_option maxHeartbeats 4000000 in
set_option maxRecDepth 100000 in
theorem t_W_enclaveMayUse {p : Program} {l : Launch} {e : Env} {s0 : State} {m : MethodId} {args : Array Value} {below : List Frame} {meth : Method} {c : Code} {D : va_G} {A : Nat → Prop} {dI : Nat → ClassId} {ad : Nat → Nat} (X : CX p s0 m args meth c D vwCl (tyE dI) nwE A prog_1_method_29_code 4 (some .boolean) (Cond.code y_W_enclaveMayUse prog_1_method_29_code 4 (some .boolean) :: WS) R_W) (a1 : Int32) (a2 : Int32) (s : eS) (ls : Array Slot)  (hl : lv_has ls 4 [(0, .ref (ad 0)), (1, .int a1), (2, .int a2)]) : GG p l e rm_W_enclaveMayUse s0 m args below meth c D vwCl (tyE dI) A (wE dI ad) 0 0 (QM below args s0 D vwCl (tyE dI) A (wE dI ad) rvI) (f_W_enclaveMayUse a1 a2 s) (F0 m 0 ls []) s := by
  unfold f_W_enclaveMayUse
  refine gg_iload_n X 0 d_W_enclaveMayUse_0 rfl (lv_at hl 2 rfl) ?_
  refine gg_callS X 1 nwOk_E [.int a2] [] (fun _ _ h sz => M_W_isAddress l D dI ad _ a2  h sz) (cwS 1 X.1.2.2.2.2 (gwS w_119 w_120 w_1 w_121) rfl rfl rfl (by decide +kernel) ⟨by decide, by decide⟩) rfl hl.1 rfl (Nat.le_of_ble_eq_true rfl) ⟨Nat.zero_le _, Nat.zero_le _⟩ d_W_enclaveMayUse_1 (fun r1 s2 ho3 => ?_)
  refine gg_show_i ?_
  refine gg_if_ne X 4 9 d_W_enclaveMayUse_4 rfl (fun _ => ?_) (fun _ => ?_)
  · refine gg_aload_n X 9 d_W_enclaveMayUse_9 rfl (lv_at hl 0 rfl) ?_
    refine gg_get_W_kinds X 10 (Or.inl (List.mem_cons_of_mem _ w_82)) d_W_enclaveMayUse_10 ?_
    refine gg_iload_n X 13 d_W_enclaveMayUse_13 rfl (lv_at hl 2 rfl) ?_
    refine gg_bipush X 14 (16 : Int32) d_W_enclaveMayUse_14 (by decide) ?_
    refine gg_idivk X 16 d_W_enclaveMayUse_16 (by decide) ?_
    refine gg_ald_KIN X 17 d_W_enclaveMayUse_17 ?_
    refine gg_istore_n X 18 (fun v4 => [(3, .int v4), (0, .ref (ad 0)), (1, .int a1), (2, .int a2)]) d_W_enclaveMayUse_18 rfl hl (by decide) (fun _ => rfl) (fun v4 ls hl => ?_)
    refine gg_iload_n X 19 d_W_enclaveMayUse_19 rfl (lv_at hl 0 rfl) ?_
    refine gg_iconst X 20 (2 : Int32) d_W_enclaveMayUse_20 (by decide) ?_
    refine gg_iload_n X 21 d_W_enclaveMayUse_21 rfl (lv_at hl 2 rfl) ?_
    refine gg_iadd X 22 d_W_enclaveMayUse_22 ?_
    refine gg_icmp_eq X 23 33 d_W_enclaveMayUse_23 rfl (fun _ => ?_) (fun _ => ?_)
    · exact t_W_enclaveMayUse_33 X s2 _  (lv_sub hl [] rfl)
    · refine gg_iload_n X 26 d_W_enclaveMayUse_26 rfl (lv_at hl 0 rfl) ?_
      refine gg_iconst X 27 (5 : Int32) d_W_enclaveMayUse_27 (by decide) ?_
      refine gg_iload_n X 28 d_W_enclaveMayUse_28 rfl (lv_at hl 2 rfl) ?_
      refine gg_iadd X 29 d_W_enclaveMayUse_29 ?_
      refine gg_icmp_ne X 30 37 d_W_enclaveMayUse_30 rfl (fun _ => ?_) (fun _ => ?_)
      · refine gg_iconst X 37 (0 : Int32) d_W_enclaveMayUse_37 (by decide) ?_
        exact gg_zretk X 38 rfl d_W_enclaveMayUse_38
      · exact t_W_enclaveMayUse_33 X s2 _  (lv_sub hl [] rfl)
  · refine gg_iconst X 7 (0 : Int32) d_W_enclaveMayUse_7 (by decide) ?_
    exact gg_zretk X 8 rfl d_W_enclaveMayUse_8
theorem M_W_enclaveMayUse (l : Launch) (D : va_G) (dI : Nat → ClassId) (ad : Nat → Nat) (s : eS) (a1 : Int32) (a2 : Int32)  {r : Int32} {s' : eS} (h : f_W_enclaveMayUse a1 a2 s = some (r, s')) (sz : Nat) : Met l y_W_enclaveMayUse (Cond.code y_W_enclaveMayUse prog_1_method_29_code 4 (some .boolean) :: WS) rm_W_enclaveMayUse (Px (wE dI ad) D vwCl (tyE dI) nwE sz s [.ref (ad 0), .int a1, .int a2]) (Qx rvI (wE dI ad) D vwCl (tyE dI) (va_A ((wE dI ad) s) sz) r s') 0 0 (va_A ((wE dI ad) s) sz) :=
  met_of [.ref (ad 0), .int a1, .int a2] (by decide) rfl rfl (Nat.le_of_ble_eq_true rfl) h (fun p e s0 m args below meth c A ls X hl => t_W_enclaveMayUse X a1 a2 s ls  hl)
set_option maxHeartbeats 4000000 in
set_option maxRecDepth 100000 in
theorem t_W_runnerMayUse {p : Program} {l : Launch} {e : Env} {s0 : State} {m : MethodId} {args : Array Value} {below : List Frame} {meth : Method} {c : Code} {D : va_G} {A : Nat → Prop} {dI : Nat → ClassId} {ad : Nat → Nat} (X : CX p s0 m args meth c D vwCl (tyE dI) nwE A prog_1_method_30_code 2 (some .boolean) (Cond.code y_W_runnerMayUse prog_1_method_30_code 2 (some .boolean) :: WS) R_W) (a1 : Int32) (s : eS) (ls : Array Slot)  (hl : lv_has ls 2 [(0, .ref (ad 0)), (1, .int a1)]) : GG p l e rm_W_runnerMayUse s0 m args below meth c D vwCl (tyE dI) A (wE dI ad) 0 0 (QM below args s0 D vwCl (tyE dI) A (wE dI ad) rvI) (f_W_runnerMayUse a1 s) (F0 m 0 ls []) s := by
  unfold f_W_runnerMayUse
  refine gg_aload_n X 0 d_W_runnerMayUse_0 rfl (lv_at hl 0 rfl) ?_
  refine gg_get_W_running X 1 (Or.inl (List.mem_cons_of_mem _ w_87)) d_W_runnerMayUse_1 ?_
  refine gg_iconst X 4 (-1 : Int32) d_W_runnerMayUse_4 (by decide) ?_
  refine gg_icmp_ne X 5 16 d_W_runnerMayUse_5 rfl (fun _ => ?_) (fun _ => ?_)
  · refine gg_aload_n X 16 d_W_runnerMayUse_16 rfl (lv_at hl 0 rfl) ?_
    refine gg_aload_n X 17 d_W_runnerMayUse_17 rfl (lv_at hl 0 rfl) ?_
    refine gg_get_W_running X 18 (Or.inl (List.mem_cons_of_mem _ w_87)) d_W_runnerMayUse_18 ?_
    refine gg_iconst X 21 (2 : Int32) d_W_runnerMayUse_21 (by decide) ?_
    refine gg_idivk X 22 d_W_runnerMayUse_22 (by decide) ?_
    refine gg_iload_n X 23 d_W_runnerMayUse_23 rfl (lv_at hl 1 rfl) ?_
    refine gg_callV X 24 nwOk_E [.int ((s 9 2) / (2 : Int32)), .int a1] [] (fun _ _ h sz => M_W_enclaveMayUse l D dI ad _ ((s 9 2) / (2 : Int32)) a1  h sz) (cwV 2 X.1.2.2.2.2 (gwV w_281 w_283 ws_W_enclaveMayUse w_1 w_284) rfl rfl rfl (by decide +kernel) ⟨by decide, by decide⟩) (he_E_Main) rfl rfl hl.1 rfl (Nat.le_of_ble_eq_true rfl) ⟨Nat.zero_le _, Nat.zero_le _⟩ d_W_runnerMayUse_24 (fun r1 s2 ho3 => ?_)
    refine gg_show_i ?_
    exact gg_zret X 27 d_W_runnerMayUse_27
  · refine gg_aload_n X 8 d_W_runnerMayUse_8 rfl (lv_at hl 0 rfl) ?_
    refine gg_iload_n X 9 d_W_runnerMayUse_9 rfl (lv_at hl 1 rfl) ?_
    refine gg_callV X 10 nwOk_E [.int a1] [] (fun _ _ h sz => M_W_systemMayUse l D dI ad _ a1  h sz) (cwV 1 X.1.2.2.2.2 (gwV w_115 w_117 ws_W_systemMayUse w_1 w_118) rfl rfl rfl (by decide +kernel) ⟨by decide, by decide⟩) (he_E_Main) rfl rfl hl.1 rfl (Nat.le_of_ble_eq_true rfl) ⟨Nat.zero_le _, Nat.zero_le _⟩ d_W_runnerMayUse_10 (fun r4 s5 ho6 => ?_)
    refine gg_show_i ?_
    refine gg_goto X 13 27 d_W_runnerMayUse_13 rfl ?_
    exact gg_zret X 27 d_W_runnerMayUse_27
theorem M_W_runnerMayUse (l : Launch) (D : va_G) (dI : Nat → ClassId) (ad : Nat → Nat) (s : eS) (a1 : Int32)  {r : Int32} {s' : eS} (h : f_W_runnerMayUse a1 s = some (r, s')) (sz : Nat) : Met l y_W_runnerMayUse (Cond.code y_W_runnerMayUse prog_1_method_30_code 2 (some .boolean) :: WS) rm_W_runnerMayUse (Px (wE dI ad) D vwCl (tyE dI) nwE sz s [.ref (ad 0), .int a1]) (Qx rvI (wE dI ad) D vwCl (tyE dI) (va_A ((wE dI ad) s) sz) r s') 0 0 (va_A ((wE dI ad) s) sz) :=
  met_of [.ref (ad 0), .int a1] (by decide) rfl rfl (Nat.le_of_ble_eq_true rfl) h (fun p e s0 m args below meth c A ls X hl => t_W_runnerMayUse X a1 s ls  hl)
set_option maxHeartbeats 4000000 in
set_option maxRecDepth 100000 in
theorem t_W_fault {p : Program} {l : Launch} {e : Env} {s0 : State} {m : MethodId} {args : Array Value} {below : List Frame} {meth : Method} {c : Code} {D : va_G} {A : Nat → Prop} {dI : Nat → ClassId} {ad : Nat → Nat} (X : CX p s0 m args meth c D vwCl (tyE dI) nwE A prog_1_method_36_code 2 none (Cond.code y_W_fault prog_1_method_36_code 2 none :: WS) R_W) (a1 : Int32) (s : eS) (ls : Array Slot)  (hl : lv_has ls 2 [(0, .ref (ad 0)), (1, .int a1)]) : GG p l e rm_W_fault s0 m args below meth c D vwCl (tyE dI) A (wE dI ad) 0 0 (QM below args s0 D vwCl (tyE dI) A (wE dI ad) rvV) (f_W_fault a1 s) (F0 m 0 ls []) s := by
  unfold f_W_fault
  refine gg_aload_n X 0 d_W_fault_0 rfl (lv_at hl 0 rfl) ?_
  refine gg_get_W_running X 1 (Or.inl (List.mem_cons_of_mem _ w_87)) d_W_fault_1 ?_
  refine gg_iconst X 4 (-1 : Int32) d_W_fault_4 (by decide) ?_
  refine gg_icmp_ne X 5 16 d_W_fault_5 rfl (fun _ => ?_) (fun _ => ?_)
  · refine gg_aload_n X 16 d_W_fault_16 rfl (lv_at hl 0 rfl) ?_
    refine gg_iconst X 17 (1 : Int32) d_W_fault_17 (by decide) ?_
    refine gg_iload_n X 18 d_W_fault_18 rfl (lv_at hl 1 rfl) ?_
    refine gg_iconst X 19 (0 : Int32) d_W_fault_19 (by decide) ?_
    refine gg_callV X 20 nwOk_E [.int (1 : Int32), .int a1, .int (0 : Int32)] [] (fun _ _ h sz => M_W_leave l D dI ad _ (1 : Int32) a1 (0 : Int32)  h sz) (cwV 3 X.1.2.2.2.2 (gwV w_269 w_271 ws_W_leave w_1 w_272) rfl rfl rfl (by decide +kernel) ⟨by decide, by decide⟩) (he_E_Main) rfl rfl hl.1 rfl (Nat.le_of_ble_eq_true rfl) ⟨Nat.zero_le _, Nat.zero_le _⟩ d_W_fault_20 (fun r1 s2 ho3 => ?_)
    refine gg_show_v ?_
    exact gg_vret X 23 d_W_fault_23
  · refine gg_aload_n X 8 d_W_fault_8 rfl (lv_at hl 0 rfl) ?_
    refine gg_iconst X 9 (1 : Int32) d_W_fault_9 (by decide) ?_
    refine gg_put_W_halted X 10 (Or.inl (List.mem_cons_of_mem _ w_86)) rfl rfl d_W_fault_10 (fun s4 => ?_)
    refine gg_goto X 13 23 d_W_fault_13 rfl ?_
    exact gg_vret X 23 d_W_fault_23
theorem M_W_fault (l : Launch) (D : va_G) (dI : Nat → ClassId) (ad : Nat → Nat) (s : eS) (a1 : Int32)  {r : Unit} {s' : eS} (h : f_W_fault a1 s = some (r, s')) (sz : Nat) : Met l y_W_fault (Cond.code y_W_fault prog_1_method_36_code 2 none :: WS) rm_W_fault (Px (wE dI ad) D vwCl (tyE dI) nwE sz s [.ref (ad 0), .int a1]) (Qx rvV (wE dI ad) D vwCl (tyE dI) (va_A ((wE dI ad) s) sz) r s') 0 0 (va_A ((wE dI ad) s) sz) :=
  met_of [.ref (ad 0), .int a1] (by decide) rfl rfl (Nat.le_of_ble_eq_true rfl) h (fun p e s0 m args below meth c A ls X hl => t_W_fault X a1 s ls  hl)
set_option maxHeartbeats 4000000 in
set_option maxRecDepth 100000 in
theorem t_W_macOf {p : Program} {l : Launch} {e : Env} {s0 : State} {m : MethodId} {args : Array Value} {below : List Frame} {meth : Method} {c : Code} {D : va_G} {A : Nat → Prop} {dI : Nat → ClassId} {ad : Nat → Nat} (X : CX p s0 m args meth c D vwCl (tyE dI) nwE A prog_1_method_27_code 3 (some .int) (Cond.code y_W_macOf prog_1_method_27_code 3 (some .int) :: WS) R_W) (a1 : Int32) (a2 : Int32) (s : eS) (ls : Array Slot)  (hl : lv_has ls 3 [(0, .ref (ad 0)), (1, .int a1), (2, .int a2)]) : GG p l e rm_W_macOf s0 m args below meth c D vwCl (tyE dI) A (wE dI ad) 0 0 (QM below args s0 D vwCl (tyE dI) A (wE dI ad) rvI) (f_W_macOf a1 a2 s) (F0 m 0 ls []) s := by
  unfold f_W_macOf
  refine gg_aload_n X 0 d_W_macOf_0 rfl (lv_at hl 0 rfl) ?_
  refine gg_get_W_secret X 1 (Or.inl (List.mem_cons_of_mem _ w_80)) d_W_macOf_1 ?_
  refine gg_iload_n X 4 d_W_macOf_4 rfl (lv_at hl 1 rfl) ?_
  refine gg_callS X 5 nwOk_E [.int (s 9 0), .int a1] [] (fun _ _ h sz => M_W_mix l D dI ad _ (s 9 0) a1  h sz) (cwS 2 X.1.2.2.2.2 (gwS w_301 w_187 w_1 w_188) rfl rfl rfl (by decide +kernel) ⟨by decide, by decide⟩) rfl hl.1 rfl (Nat.le_of_ble_eq_true rfl) ⟨Nat.zero_le _, Nat.zero_le _⟩ d_W_macOf_5 (fun r1 s2 ho3 => ?_)
  refine gg_show_i ?_
  refine gg_iload_n X 8 d_W_macOf_8 rfl (lv_at hl 2 rfl) ?_
  refine gg_callS X 9 nwOk_E [.int r1, .int a2] [] (fun _ _ h sz => M_W_mix l D dI ad _ r1 a2  h sz) (cwS 2 X.1.2.2.2.2 (gwS w_301 w_187 w_1 w_188) rfl rfl rfl (by decide +kernel) ⟨by decide, by decide⟩) rfl hl.1 rfl (Nat.le_of_ble_eq_true rfl) ⟨Nat.zero_le _, Nat.zero_le _⟩ d_W_macOf_9 (fun r4 s5 ho6 => ?_)
  refine gg_show_i ?_
  refine gg_aload_n X 12 d_W_macOf_12 rfl (lv_at hl 0 rfl) ?_
  refine gg_get_W_secret X 13 (Or.inl (List.mem_cons_of_mem _ w_80)) d_W_macOf_13 ?_
  refine gg_callS X 16 nwOk_E [.int r4, .int (s5 9 0)] [] (fun _ _ h sz => M_W_mix l D dI ad _ r4 (s5 9 0)  h sz) (cwS 2 X.1.2.2.2.2 (gwS w_301 w_187 w_1 w_188) rfl rfl rfl (by decide +kernel) ⟨by decide, by decide⟩) rfl hl.1 rfl (Nat.le_of_ble_eq_true rfl) ⟨Nat.zero_le _, Nat.zero_le _⟩ d_W_macOf_16 (fun r7 s8 ho9 => ?_)
  refine gg_show_i ?_
  exact gg_iret X 19 d_W_macOf_19
theorem M_W_macOf (l : Launch) (D : va_G) (dI : Nat → ClassId) (ad : Nat → Nat) (s : eS) (a1 : Int32) (a2 : Int32)  {r : Int32} {s' : eS} (h : f_W_macOf a1 a2 s = some (r, s')) (sz : Nat) : Met l y_W_macOf (Cond.code y_W_macOf prog_1_method_27_code 3 (some .int) :: WS) rm_W_macOf (Px (wE dI ad) D vwCl (tyE dI) nwE sz s [.ref (ad 0), .int a1, .int a2]) (Qx rvI (wE dI ad) D vwCl (tyE dI) (va_A ((wE dI ad) s) sz) r s') 0 0 (va_A ((wE dI ad) s) sz) :=
  met_of [.ref (ad 0), .int a1, .int a2] (by decide) rfl rfl (Nat.le_of_ble_eq_true rfl) h (fun p e s0 m args below meth c A ls X hl => t_W_macOf X a1 a2 s ls  hl)
set_option maxHeartbeats 4000000 in
set_option maxRecDepth 100000 in
theorem t_W_enclaveCall {p : Program} {l : Launch} {e : Env} {s0 : State} {m : MethodId} {args : Array Value} {below : List Frame} {meth : Method} {c : Code} {D : va_G} {A : Nat → Prop} {dI : Nat → ClassId} {ad : Nat → Nat} (X : CX p s0 m args meth c D vwCl (tyE dI) nwE A prog_1_method_38_code 6 (some .int) (Cond.code y_W_enclaveCall prog_1_method_38_code 6 (some .int) :: WS) R_W) (a1 : Int32) (a2 : Int32) (a3 : Int32) (a4 : Int32) (s : eS) (ls : Array Slot)  (hl : lv_has ls 6 [(0, .ref (ad 0)), (1, .int a1), (2, .int a2), (3, .int a3), (4, .int a4)]) : GG p l e rm_W_enclaveCall s0 m args below meth c D vwCl (tyE dI) A (wE dI ad) 0 0 (QM below args s0 D vwCl (tyE dI) A (wE dI ad) rvI) (f_W_enclaveCall a1 a2 a3 a4 s) (F0 m 0 ls []) s := by
  unfold f_W_enclaveCall
  refine gg_aload_n X 0 d_W_enclaveCall_0 rfl (lv_at hl 0 rfl) ?_
  refine gg_get_W_enclaves X 1 (Or.inl (List.mem_cons_of_mem _ w_83)) d_W_enclaveCall_1 ?_
  refine gg_aload_n X 4 d_W_enclaveCall_4 rfl (lv_at hl 0 rfl) ?_
  refine gg_get_W_running X 5 (Or.inl (List.mem_cons_of_mem _ w_87)) d_W_enclaveCall_5 ?_
  refine gg_iconst X 8 (2 : Int32) d_W_enclaveCall_8 (by decide) ?_
  refine gg_idivk X 9 d_W_enclaveCall_9 (by decide) ?_
  refine gg_ald_ENA X 10 d_W_enclaveCall_10 (fun hi1 => ?_)
  refine gg_get_V_measure X 11 (ixb hi1) (Or.inr ⟨_, nw_10⟩) d_W_enclaveCall_11 ?_
  refine gg_istore X 14 (fun v2 => [(5, .int v2), (0, .ref (ad 0)), (1, .int a1), (2, .int a2), (3, .int a3), (4, .int a4)]) d_W_enclaveCall_14 hl (by decide) (fun _ => rfl) (fun v2 ls hl => ?_)
  refine gg_iload_n X 16 d_W_enclaveCall_16 rfl (lv_at hl 2 rfl) ?_
  refine gg_eqc (fun h3 => ?_) (fun h3 => ?_)
  · refine gg_tin X 17 48 d_W_enclaveCall_17 h3 (by decide) (by decide) rfl rfl ?_
    refine gg_aload_n X 48 d_W_enclaveCall_48 rfl (lv_at hl 1 rfl) ?_
    refine gg_iconst X 49 (1 : Int32) d_W_enclaveCall_49 (by decide) ?_
    refine gg_iconst X 50 (1 : Int32) d_W_enclaveCall_50 (by decide) ?_
    refine gg_iload_n X 51 d_W_enclaveCall_51 rfl (lv_at hl 3 rfl) ?_
    refine gg_callV X 52 nwOk_E [.int (1 : Int32), .int (1 : Int32), .int a2] [] (fun _ _ h sz => M_W_leave l D dI ad _ (1 : Int32) (1 : Int32) a2  h sz) (cwV 3 X.1.2.2.2.2 (gwV w_269 w_271 ws_W_leave w_1 w_272) rfl rfl rfl (by decide +kernel) ⟨by decide, by decide⟩) (he_E_Main) rfl rfl hl.1 rfl (Nat.le_of_ble_eq_true rfl) ⟨Nat.zero_le _, Nat.zero_le _⟩ d_W_enclaveCall_52 (fun r4 s5 ho6 => ?_)
    refine gg_show_v ?_
    refine gg_iconst X 55 (0 : Int32) d_W_enclaveCall_55 (by decide) ?_
    exact gg_iret X 56 d_W_enclaveCall_56
  refine gg_eqc (fun h7 => ?_) (fun h7 => ?_)
  · refine gg_tin X 17 57 d_W_enclaveCall_17 h7 (by decide) (by decide) rfl rfl ?_
    refine gg_aload_n X 57 d_W_enclaveCall_57 rfl (lv_at hl 1 rfl) ?_
    refine gg_iload X 58 d_W_enclaveCall_58 (lv_at hl 0 rfl) ?_
    refine gg_iload_n X 60 d_W_enclaveCall_60 rfl (lv_at hl 3 rfl) ?_
    refine gg_callV X 61 nwOk_E [.int v2, .int a2] [] (fun _ _ h sz => M_W_macOf l D dI ad _ v2 a2  h sz) (cwV 2 X.1.2.2.2.2 (gwV w_297 w_299 ws_W_macOf w_1 w_300) rfl rfl rfl (by decide +kernel) ⟨by decide, by decide⟩) (he_E_Main) rfl rfl hl.1 rfl (Nat.le_of_ble_eq_true rfl) ⟨Nat.zero_le _, Nat.zero_le _⟩ d_W_enclaveCall_61 (fun r8 s9 ho10 => ?_)
    refine gg_show_i ?_
    exact gg_iret X 64 d_W_enclaveCall_64
  refine gg_eqc (fun h11 => ?_) (fun h11 => ?_)
  · refine gg_tin X 17 65 d_W_enclaveCall_17 h11 (by decide) (by decide) rfl rfl ?_
    refine gg_aload_n X 65 d_W_enclaveCall_65 rfl (lv_at hl 1 rfl) ?_
    refine gg_get_W_secret X 66 (Or.inl (List.mem_cons_of_mem _ w_80)) d_W_enclaveCall_66 ?_
    refine gg_iload X 69 d_W_enclaveCall_69 (lv_at hl 0 rfl) ?_
    refine gg_callS X 71 nwOk_E [.int (s 9 0), .int v2] [] (fun _ _ h sz => M_W_mix l D dI ad _ (s 9 0) v2  h sz) (cwS 2 X.1.2.2.2.2 (gwS w_301 w_187 w_1 w_188) rfl rfl rfl (by decide +kernel) ⟨by decide, by decide⟩) rfl hl.1 rfl (Nat.le_of_ble_eq_true rfl) ⟨Nat.zero_le _, Nat.zero_le _⟩ d_W_enclaveCall_71 (fun r12 s13 ho14 => ?_)
    refine gg_show_i ?_
    refine gg_bipush X 74 (18 : Int32) d_W_enclaveCall_74 (by decide) ?_
    refine gg_callS X 76 nwOk_E [.int r12, .int (18 : Int32)] [] (fun _ _ h sz => M_W_mix l D dI ad _ r12 (18 : Int32)  h sz) (cwS 2 X.1.2.2.2.2 (gwS w_301 w_187 w_1 w_188) rfl rfl rfl (by decide +kernel) ⟨by decide, by decide⟩) rfl hl.1 rfl (Nat.le_of_ble_eq_true rfl) ⟨Nat.zero_le _, Nat.zero_le _⟩ d_W_enclaveCall_76 (fun r15 s16 ho17 => ?_)
    refine gg_show_i ?_
    exact gg_iret X 79 d_W_enclaveCall_79
  refine gg_eqc (fun h18 => ?_) (fun h18 => ?_)
  · refine gg_tin X 17 80 d_W_enclaveCall_17 h18 (by decide) (by decide) rfl rfl ?_
    refine gg_aload_n X 80 d_W_enclaveCall_80 rfl (lv_at hl 1 rfl) ?_
    refine gg_iload_n X 81 d_W_enclaveCall_81 rfl (lv_at hl 3 rfl) ?_
    refine gg_iload_n X 82 d_W_enclaveCall_82 rfl (lv_at hl 4 rfl) ?_
    refine gg_callV X 83 nwOk_E [.int a2, .int a3] [] (fun _ _ h sz => M_W_macOf l D dI ad _ a2 a3  h sz) (cwV 2 X.1.2.2.2.2 (gwV w_297 w_299 ws_W_macOf w_1 w_300) rfl rfl rfl (by decide +kernel) ⟨by decide, by decide⟩) (he_E_Main) rfl rfl hl.1 rfl (Nat.le_of_ble_eq_true rfl) ⟨Nat.zero_le _, Nat.zero_le _⟩ d_W_enclaveCall_83 (fun r19 s20 ho21 => ?_)
    refine gg_show_i ?_
    refine gg_iload X 86 d_W_enclaveCall_86 (lv_at hl 5 rfl) ?_
    refine gg_icmp_ne X 88 95 d_W_enclaveCall_88 rfl (fun _ => ?_) (fun _ => ?_)
    · refine gg_iconst X 95 (0 : Int32) d_W_enclaveCall_95 (by decide) ?_
      exact gg_iret X 96 d_W_enclaveCall_96
    · refine gg_iconst X 91 (1 : Int32) d_W_enclaveCall_91 (by decide) ?_
      refine gg_goto X 92 96 d_W_enclaveCall_92 rfl ?_
      exact gg_iret X 96 d_W_enclaveCall_96
  refine gg_tout X 17 97 d_W_enclaveCall_17 (by have q0 := lv_neT (a := 16) h3 (by decide); have q1 := lv_neT (a := 17) h7 (by decide); have q2 := lv_neT (a := 18) h11 (by decide); have q3 := lv_neT (a := 19) h18 (by decide); omega) rfl ?_
  refine gg_iconst X 97 (-1 : Int32) d_W_enclaveCall_97 (by decide) ?_
  exact gg_iret X 98 d_W_enclaveCall_98
theorem M_W_enclaveCall (l : Launch) (D : va_G) (dI : Nat → ClassId) (ad : Nat → Nat) (s : eS) (a1 : Int32) (a2 : Int32) (a3 : Int32) (a4 : Int32)  {r : Int32} {s' : eS} (h : f_W_enclaveCall a1 a2 a3 a4 s = some (r, s')) (sz : Nat) : Met l y_W_enclaveCall (Cond.code y_W_enclaveCall prog_1_method_38_code 6 (some .int) :: WS) rm_W_enclaveCall (Px (wE dI ad) D vwCl (tyE dI) nwE sz s [.ref (ad 0), .int a1, .int a2, .int a3, .int a4]) (Qx rvI (wE dI ad) D vwCl (tyE dI) (va_A ((wE dI ad) s) sz) r s') 0 0 (va_A ((wE dI ad) s) sz) :=
  met_of [.ref (ad 0), .int a1, .int a2, .int a3, .int a4] (by decide) rfl rfl (Nat.le_of_ble_eq_true rfl) h (fun p e s0 m args below meth c A ls X hl => t_W_enclaveCall X a1 a2 a3 a4 s ls  hl)
set_option maxHeartbeats 4000000 in
set_option maxRecDepth 100000 in
theorem t_W_obeyCall_65 {p : Program} {l : Launch} {e : Env} {s0 : State} {m : MethodId} {args : Array Value} {below : List Frame} {meth : Method} {c : Code} {D : va_G} {A : Nat → Prop} {dI : Nat → ClassId} {ad : Nat → Nat} (X : CX p s0 m args meth c D vwCl (tyE dI) nwE A prog_1_method_35_code 8 none (Cond.code y_W_obeyCall prog_1_method_35_code 8 none :: WS) R_W) (m1 : Nat) (x6 : Int32) (y0 : Int32) (s : eS) (ls : Array Slot) (hm1 : m1 < 7) (hl : lv_has ls 8 [(0, .ref (ad 0)), (1, .ref (ad (17 + m1))), (6, .int x6)]) : GG p l e rm_W_obeyCall s0 m args below meth c D vwCl (tyE dI) A (wE dI ad) 0 0 (QM below args s0 D vwCl (tyE dI) A (wE dI ad) rvV) (f_W_obeyCall_65 m1 x6 y0 s) (F0 m 65 ls [.int y0]) s := by
  unfold f_W_obeyCall_65
  refine gg_istore X 65 (fun v1 => [(7, .int v1), (0, .ref (ad 0)), (1, .ref (ad (17 + m1))), (6, .int x6)]) d_W_obeyCall_65 hl (by decide) (fun _ => rfl) (fun v1 ls hl => ?_)
  refine gg_aload_n X 67 d_W_obeyCall_67 rfl (lv_at hl 1 rfl) ?_
  refine gg_get_W_running X 68 (Or.inl (List.mem_cons_of_mem _ w_87)) d_W_obeyCall_68 ?_
  refine gg_iload X 71 d_W_obeyCall_71 (lv_at hl 3 rfl) ?_
  refine gg_icmp_ne X 73 83 d_W_obeyCall_73 rfl (fun _ => ?_) (fun _ => ?_)
  · exact gg_vret X 83 d_W_obeyCall_83
  · refine gg_aload_n X 76 d_W_obeyCall_76 rfl (lv_at hl 2 rfl) ?_
    refine gg_iconst X 77 (1 : Int32) d_W_obeyCall_77 (by decide) ?_
    refine gg_iload X 78 d_W_obeyCall_78 (lv_at hl 0 rfl) ?_
    refine gg_callVN X 80 nwOk_E [.int (1 : Int32), .int v1] [] (fun _ _ h sz => M_C_put l D dI ad _ m1 (1 : Int32) v1 hm1 h sz) (⟨va_cnB 2 X.1.2.2.2.2 (gwB w_137) rfl rfl rfl (X.2.2.2.2.2 _ nw_13) (X.1.2.2.2.2 _ (List.mem_cons_of_mem _ w_4)) (by decide +kernel) ⟨by decide, by decide⟩, X.1.2.2.2.2 _ (List.mem_cons_of_mem _ w_136), X.1.2.2.2.2 _ (List.mem_cons_of_mem _ ws_C_put)⟩) (he_E_Core hm1) rfl rfl hl.1 rfl (Nat.le_of_ble_eq_true rfl) ⟨Nat.zero_le _, Nat.zero_le _⟩ d_W_obeyCall_80 (fun r2 s3 ho4 => ?_)
    refine gg_show_v ?_
    exact gg_vret X 83 d_W_obeyCall_83
set_option maxHeartbeats 4000000 in
set_option maxRecDepth 100000 in
theorem t_W_obeyCall {p : Program} {l : Launch} {e : Env} {s0 : State} {m : MethodId} {args : Array Value} {below : List Frame} {meth : Method} {c : Code} {D : va_G} {A : Nat → Prop} {dI : Nat → ClassId} {ad : Nat → Nat} (X : CX p s0 m args meth c D vwCl (tyE dI) nwE A prog_1_method_35_code 8 none (Cond.code y_W_obeyCall prog_1_method_35_code 8 none :: WS) R_W) (n1 : Nat) (a2 : Int32) (s : eS) (ls : Array Slot) (hb1 : n1 < 7) (hl : lv_has ls 8 [(0, .ref (ad 0)), (1, .ref (ad (17 + n1))), (2, .int a2)]) : GG p l e rm_W_obeyCall s0 m args below meth c D vwCl (tyE dI) A (wE dI ad) 0 0 (QM below args s0 D vwCl (tyE dI) A (wE dI ad) rvV) (f_W_obeyCall n1 a2 s) (F0 m 0 ls []) s := by
  unfold f_W_obeyCall
  refine gg_aload_n X 0 d_W_obeyCall_0 rfl (lv_at hl 1 rfl) ?_
  refine gg_iconst X 1 (1 : Int32) d_W_obeyCall_1 (by decide) ?_
  refine gg_callVN X 2 nwOk_E [.int (1 : Int32)] [] (fun _ _ h sz => M_C_get l D dI ad _ n1 (1 : Int32) hb1 h sz) (⟨va_cnB 1 X.1.2.2.2.2 (gwB w_145) rfl rfl rfl (X.2.2.2.2.2 _ nw_14) (X.1.2.2.2.2 _ (List.mem_cons_of_mem _ w_4)) (by decide +kernel) ⟨by decide, by decide⟩, X.1.2.2.2.2 _ (List.mem_cons_of_mem _ w_144), X.1.2.2.2.2 _ (List.mem_cons_of_mem _ ws_C_get)⟩) (he_E_Core hb1) rfl rfl hl.1 rfl (Nat.le_of_ble_eq_true rfl) ⟨Nat.zero_le _, Nat.zero_le _⟩ d_W_obeyCall_2 (fun r1 s2 ho3 => ?_)
  refine gg_show_i ?_
  refine gg_istore_n X 5 (fun v4 => [(3, .int v4), (0, .ref (ad 0)), (1, .ref (ad (17 + n1))), (2, .int a2)]) d_W_obeyCall_5 rfl hl (by decide) (fun _ => rfl) (fun v4 ls hl => ?_)
  refine gg_aload_n X 6 d_W_obeyCall_6 rfl (lv_at hl 2 rfl) ?_
  refine gg_iconst X 7 (2 : Int32) d_W_obeyCall_7 (by decide) ?_
  refine gg_callVN X 8 nwOk_E [.int (2 : Int32)] [] (fun _ _ h sz => M_C_get l D dI ad _ n1 (2 : Int32) hb1 h sz) (⟨va_cnB 1 X.1.2.2.2.2 (gwB w_145) rfl rfl rfl (X.2.2.2.2.2 _ nw_14) (X.1.2.2.2.2 _ (List.mem_cons_of_mem _ w_4)) (by decide +kernel) ⟨by decide, by decide⟩, X.1.2.2.2.2 _ (List.mem_cons_of_mem _ w_144), X.1.2.2.2.2 _ (List.mem_cons_of_mem _ ws_C_get)⟩) (he_E_Core hb1) rfl rfl hl.1 rfl (Nat.le_of_ble_eq_true rfl) ⟨Nat.zero_le _, Nat.zero_le _⟩ d_W_obeyCall_8 (fun r5 s6 ho7 => ?_)
  refine gg_show_i ?_
  refine gg_istore X 11 (fun v8 => [(4, .int v8), (3, .int v4), (0, .ref (ad 0)), (1, .ref (ad (17 + n1))), (2, .int a2)]) d_W_obeyCall_11 hl (by decide) (fun _ => rfl) (fun v8 ls hl => ?_)
  refine gg_aload_n X 13 d_W_obeyCall_13 rfl (lv_at hl 3 rfl) ?_
  refine gg_iconst X 14 (3 : Int32) d_W_obeyCall_14 (by decide) ?_
  refine gg_callVN X 15 nwOk_E [.int (3 : Int32)] [] (fun _ _ h sz => M_C_get l D dI ad _ n1 (3 : Int32) hb1 h sz) (⟨va_cnB 1 X.1.2.2.2.2 (gwB w_145) rfl rfl rfl (X.2.2.2.2.2 _ nw_14) (X.1.2.2.2.2 _ (List.mem_cons_of_mem _ w_4)) (by decide +kernel) ⟨by decide, by decide⟩, X.1.2.2.2.2 _ (List.mem_cons_of_mem _ w_144), X.1.2.2.2.2 _ (List.mem_cons_of_mem _ ws_C_get)⟩) (he_E_Core hb1) rfl rfl hl.1 rfl (Nat.le_of_ble_eq_true rfl) ⟨Nat.zero_le _, Nat.zero_le _⟩ d_W_obeyCall_15 (fun r9 s10 ho11 => ?_)
  refine gg_show_i ?_
  refine gg_istore X 18 (fun v12 => [(5, .int v12), (4, .int v8), (3, .int v4), (0, .ref (ad 0)), (1, .ref (ad (17 + n1))), (2, .int a2)]) d_W_obeyCall_18 hl (by decide) (fun _ => rfl) (fun v12 ls hl => ?_)
  refine gg_aload_n X 20 d_W_obeyCall_20 rfl (lv_at hl 3 rfl) ?_
  refine gg_get_W_running X 21 (Or.inl (List.mem_cons_of_mem _ w_87)) d_W_obeyCall_21 ?_
  refine gg_istore X 24 (fun v13 => [(6, .int v13), (5, .int v12), (4, .int v8), (3, .int v4), (0, .ref (ad 0)), (1, .ref (ad (17 + n1))), (2, .int a2)]) d_W_obeyCall_24 hl (by decide) (fun _ => rfl) (fun v13 ls hl => ?_)
  refine gg_aload_n X 26 d_W_obeyCall_26 rfl (lv_at hl 5 rfl) ?_
  refine gg_dup X 27 d_W_obeyCall_27 rfl ?_
  refine gg_get_C_pc X 28 hb1 (Or.inr ⟨_, nw_3⟩) d_W_obeyCall_28 ?_
  refine gg_iconst X 31 (1 : Int32) d_W_obeyCall_31 (by decide) ?_
  refine gg_iadd X 32 d_W_obeyCall_32 ?_
  refine gg_put_C_pc X 33 hb1 (Or.inr ⟨_, nw_3⟩) d_W_obeyCall_33 (fun s14 => ?_)
  refine gg_iload X 36 d_W_obeyCall_36 (lv_at hl 0 rfl) ?_
  refine gg_iconst X 38 (-1 : Int32) d_W_obeyCall_38 (by decide) ?_
  refine gg_icmp_ne X 39 55 d_W_obeyCall_39 rfl (fun _ => ?_) (fun _ => ?_)
  · refine gg_aload_n X 55 d_W_obeyCall_55 rfl (lv_at hl 4 rfl) ?_
    refine gg_iload_n X 56 d_W_obeyCall_56 rfl (lv_at hl 6 rfl) ?_
    refine gg_iload_n X 57 d_W_obeyCall_57 rfl (lv_at hl 3 rfl) ?_
    refine gg_iload X 58 d_W_obeyCall_58 (lv_at hl 2 rfl) ?_
    refine gg_iload X 60 d_W_obeyCall_60 (lv_at hl 1 rfl) ?_
    refine gg_callV X 62 nwOk_E [.int a2, .int v4, .int v8, .int v12] [] (fun _ _ h sz => M_W_enclaveCall l D dI ad _ a2 v4 v8 v12  h sz) (cwV 4 X.1.2.2.2.2 (gwV w_293 w_295 ws_W_enclaveCall w_1 w_296) rfl rfl rfl (by decide +kernel) ⟨by decide, by decide⟩) (he_E_Main) rfl rfl hl.1 rfl (Nat.le_of_ble_eq_true rfl) ⟨Nat.zero_le _, Nat.zero_le _⟩ d_W_obeyCall_62 (fun r15 s16 ho17 => ?_)
    refine gg_show_i ?_
    exact t_W_obeyCall_65 X n1 v13 r15 s16 _ hb1 (lv_sub hl [4, 5, 0] rfl)
  · refine gg_aload_n X 42 d_W_obeyCall_42 rfl (lv_at hl 4 rfl) ?_
    refine gg_iload_n X 43 d_W_obeyCall_43 rfl (lv_at hl 6 rfl) ?_
    refine gg_iload_n X 44 d_W_obeyCall_44 rfl (lv_at hl 3 rfl) ?_
    refine gg_iload X 45 d_W_obeyCall_45 (lv_at hl 2 rfl) ?_
    refine gg_iload X 47 d_W_obeyCall_47 (lv_at hl 1 rfl) ?_
    refine gg_callV X 49 nwOk_E [.int a2, .int v4, .int v8, .int v12] [] (fun _ _ h sz => M_W_systemCall l D dI ad _ a2 v4 v8 v12  h sz) (cwV 4 X.1.2.2.2.2 (gwV w_162 w_164 ws_W_systemCall w_1 w_165) rfl rfl rfl (by decide +kernel) ⟨by decide, by decide⟩) (he_E_Main) rfl rfl hl.1 rfl (Nat.le_of_ble_eq_true rfl) ⟨Nat.zero_le _, Nat.zero_le _⟩ d_W_obeyCall_49 (fun r18 s19 ho20 => ?_)
    refine gg_show_i ?_
    refine gg_goto X 52 65 d_W_obeyCall_52 rfl ?_
    exact t_W_obeyCall_65 X n1 v13 r18 s19 _ hb1 (lv_sub hl [4, 5, 0] rfl)
theorem M_W_obeyCall (l : Launch) (D : va_G) (dI : Nat → ClassId) (ad : Nat → Nat) (s : eS) (n1 : Nat) (a2 : Int32) (hb1 : n1 < 7) {r : Unit} {s' : eS} (h : f_W_obeyCall n1 a2 s = some (r, s')) (sz : Nat) : Met l y_W_obeyCall (Cond.code y_W_obeyCall prog_1_method_35_code 8 none :: WS) rm_W_obeyCall (Px (wE dI ad) D vwCl (tyE dI) nwE sz s [.ref (ad 0), .ref (ad (17 + n1)), .int a2]) (Qx rvV (wE dI ad) D vwCl (tyE dI) (va_A ((wE dI ad) s) sz) r s') 0 0 (va_A ((wE dI ad) s) sz) :=
  met_of [.ref (ad 0), .ref (ad (17 + n1)), .int a2] (by decide) rfl rfl (Nat.le_of_ble_eq_true rfl) h (fun p e s0 m args below meth c A ls X hl => t_W_obeyCall X n1 a2 s ls hb1 hl)
set_option maxHeartbeats 4000000 in
set_option maxRecDepth 100000 in
theorem t_W_branch {p : Program} {l : Launch} {e : Env} {s0 : State} {m : MethodId} {args : Array Value} {below : List Frame} {meth : Method} {c : Code} {D : va_G} {A : Nat → Prop} {dI : Nat → ClassId} {ad : Nat → Nat} (X : CX p s0 m args meth c D vwCl (tyE dI) nwE A prog_1_method_34_code 3 none (Cond.code y_W_branch prog_1_method_34_code 3 none :: WS) R_W) (n0 : Nat) (a1 : Int32) (a2 : Int32) (s : eS) (ls : Array Slot) (hb0 : n0 < 7) (hl : lv_has ls 3 [(0, .ref (ad (17 + n0))), (1, .int a1), (2, .int a2)]) : GG p l e rm_W_branch s0 m args below meth c D vwCl (tyE dI) A (wE dI ad) 0 0 (QM below args s0 D vwCl (tyE dI) A (wE dI ad) rvV) (f_W_branch n0 a1 a2 s) (F0 m 0 ls []) s := by
  unfold f_W_branch
  refine gg_iload_n X 0 d_W_branch_0 rfl (lv_at hl 1 rfl) ?_
  refine gg_if_eq X 1 14 d_W_branch_1 rfl (fun _ => ?_) (fun _ => ?_)
  · exact gg_vret X 14 d_W_branch_14
  · refine gg_aload_n X 4 d_W_branch_4 rfl (lv_at hl 0 rfl) ?_
    refine gg_dup X 5 d_W_branch_5 rfl ?_
    refine gg_get_C_pc X 6 hb0 (Or.inr ⟨_, nw_3⟩) d_W_branch_6 ?_
    refine gg_iload_n X 9 d_W_branch_9 rfl (lv_at hl 2 rfl) ?_
    refine gg_iadd X 10 d_W_branch_10 ?_
    refine gg_put_C_pc X 11 hb0 (Or.inr ⟨_, nw_3⟩) d_W_branch_11 (fun s1 => ?_)
    exact gg_vret X 14 d_W_branch_14
theorem M_W_branch (l : Launch) (D : va_G) (dI : Nat → ClassId) (ad : Nat → Nat) (s : eS) (n0 : Nat) (a1 : Int32) (a2 : Int32) (hb0 : n0 < 7) {r : Unit} {s' : eS} (h : f_W_branch n0 a1 a2 s = some (r, s')) (sz : Nat) : Met l y_W_branch (Cond.code y_W_branch prog_1_method_34_code 3 none :: WS) rm_W_branch (Px (wE dI ad) D vwCl (tyE dI) nwE sz s [.ref (ad (17 + n0)), .int a1, .int a2]) (Qx rvV (wE dI ad) D vwCl (tyE dI) (va_A ((wE dI ad) s) sz) r s') 0 0 (va_A ((wE dI ad) s) sz) :=
  met_of [.ref (ad (17 + n0)), .int a1, .int a2] (by decide) rfl rfl (Nat.le_of_ble_eq_true rfl) h (fun p e s0 m args below meth c A ls X hl => t_W_branch X n0 a1 a2 s ls hb0 hl)
set_option maxHeartbeats 4000000 in
set_option maxRecDepth 100000 in
theorem t_W_obey_56 {p : Program} {l : Launch} {e : Env} {s0 : State} {m : MethodId} {args : Array Value} {below : List Frame} {meth : Method} {c : Code} {D : va_G} {A : Nat → Prop} {dI : Nat → ClassId} {ad : Nat → Nat} (X : CX p s0 m args meth c D vwCl (tyE dI) nwE A prog_1_method_33_code 8 none (Cond.code y_W_obey prog_1_method_33_code 8 none :: WS) R_W)  (s : eS) (ls : Array Slot)  (hl : lv_has ls 8 [(0, .ref (ad 0))]) : GG p l e rm_W_obey s0 m args below meth c D vwCl (tyE dI) A (wE dI ad) 0 0 (QM below args s0 D vwCl (tyE dI) A (wE dI ad) rvV) (f_W_obey_56 s) (F0 m 56 ls []) s := by
  unfold f_W_obey_56
  refine gg_aload_n X 56 d_W_obey_56 rfl (lv_at hl 0 rfl) ?_
  refine gg_iconst X 57 (4 : Int32) d_W_obey_57 (by decide) ?_
  refine gg_callV X 58 nwOk_E [.int (4 : Int32)] [] (fun _ _ h sz => M_W_fault l D dI ad _ (4 : Int32)  h sz) (cwV 1 X.1.2.2.2.2 (gwV w_285 w_287 ws_W_fault w_1 w_288) rfl rfl rfl (by decide +kernel) ⟨by decide, by decide⟩) (he_E_Main) rfl rfl hl.1 rfl (Nat.le_of_ble_eq_true rfl) ⟨Nat.zero_le _, Nat.zero_le _⟩ d_W_obey_58 (fun r1 s2 ho3 => ?_)
  refine gg_show_v ?_
  exact gg_vret X 61 d_W_obey_61
set_option maxHeartbeats 4000000 in
set_option maxRecDepth 100000 in
theorem t_W_obey_288 {p : Program} {l : Launch} {e : Env} {s0 : State} {m : MethodId} {args : Array Value} {below : List Frame} {meth : Method} {c : Code} {D : va_G} {A : Nat → Prop} {dI : Nat → ClassId} {ad : Nat → Nat} (X : CX p s0 m args meth c D vwCl (tyE dI) nwE A prog_1_method_33_code 8 none (Cond.code y_W_obey prog_1_method_33_code 8 none :: WS) R_W) (x7 : Int32) (k0 : Nat) (y1 : Int32) (s : eS) (ls : Array Slot) (hk0 : k0 < 7) (hl : lv_has ls 8 [(7, .int x7)]) : GG p l e rm_W_obey s0 m args below meth c D vwCl (tyE dI) A (wE dI ad) 0 0 (QM below args s0 D vwCl (tyE dI) A (wE dI ad) rvV) (f_W_obey_288 x7 k0 y1 s) (F0 m 288 ls [.int y1, .ref (ad (17 + k0))]) s := by
  unfold f_W_obey_288
  refine gg_iload X 288 d_W_obey_288 (lv_at hl 0 rfl) ?_
  refine gg_callS X 290 nwOk_E [.ref (ad (17 + k0)), .int y1, .int x7] [] (fun _ _ h sz => M_W_branch l D dI ad _ k0 y1 x7 hk0 h sz) (cwS 3 X.1.2.2.2.2 (gwS w_306 w_307 w_1 w_308) rfl rfl rfl (by decide +kernel) ⟨by decide, by decide⟩) rfl hl.1 rfl (Nat.le_of_ble_eq_true rfl) ⟨Nat.zero_le _, Nat.zero_le _⟩ d_W_obey_290 (fun r1 s2 ho3 => ?_)
  refine gg_show_v ?_
  refine gg_goto X 293 318 d_W_obey_293 rfl ?_
  exact gg_vret X 318 d_W_obey_318
set_option maxHeartbeats 4000000 in
set_option maxRecDepth 100000 in
theorem t_W_obey_313 {p : Program} {l : Launch} {e : Env} {s0 : State} {m : MethodId} {args : Array Value} {below : List Frame} {meth : Method} {c : Code} {D : va_G} {A : Nat → Prop} {dI : Nat → ClassId} {ad : Nat → Nat} (X : CX p s0 m args meth c D vwCl (tyE dI) nwE A prog_1_method_33_code 8 none (Cond.code y_W_obey prog_1_method_33_code 8 none :: WS) R_W) (x7 : Int32) (k0 : Nat) (y1 : Int32) (s : eS) (ls : Array Slot) (hk0 : k0 < 7) (hl : lv_has ls 8 [(7, .int x7)]) : GG p l e rm_W_obey s0 m args below meth c D vwCl (tyE dI) A (wE dI ad) 0 0 (QM below args s0 D vwCl (tyE dI) A (wE dI ad) rvV) (f_W_obey_313 x7 k0 y1 s) (F0 m 313 ls [.int y1, .ref (ad (17 + k0))]) s := by
  unfold f_W_obey_313
  refine gg_iload X 313 d_W_obey_313 (lv_at hl 0 rfl) ?_
  refine gg_callS X 315 nwOk_E [.ref (ad (17 + k0)), .int y1, .int x7] [] (fun _ _ h sz => M_W_branch l D dI ad _ k0 y1 x7 hk0 h sz) (cwS 3 X.1.2.2.2.2 (gwS w_306 w_307 w_1 w_308) rfl rfl rfl (by decide +kernel) ⟨by decide, by decide⟩) rfl hl.1 rfl (Nat.le_of_ble_eq_true rfl) ⟨Nat.zero_le _, Nat.zero_le _⟩ d_W_obey_315 (fun r1 s2 ho3 => ?_)
  refine gg_show_v ?_
  exact gg_vret X 318 d_W_obey_318
set_option maxHeartbeats 4000000 in
set_option maxRecDepth 100000 in
theorem t_W_obey_92 {p : Program} {l : Launch} {e : Env} {s0 : State} {m : MethodId} {args : Array Value} {below : List Frame} {meth : Method} {c : Code} {D : va_G} {A : Nat → Prop} {dI : Nat → ClassId} {ad : Nat → Nat} (X : CX p s0 m args meth c D vwCl (tyE dI) nwE A prog_1_method_33_code 8 none (Cond.code y_W_obey prog_1_method_33_code 8 none :: WS) R_W) (m1 : Nat) (x3 : Int32) (x4 : Int32) (x5 : Int32) (x6 : Int32) (x7 : Int32) (s : eS) (ls : Array Slot) (hm1 : m1 < 7) (hl : lv_has ls 8 [(0, .ref (ad 0)), (1, .ref (ad (17 + m1))), (3, .int x3), (4, .int x4), (5, .int x5), (6, .int x6), (7, .int x7)]) : GG p l e rm_W_obey s0 m args below meth c D vwCl (tyE dI) A (wE dI ad) 0 0 (QM below args s0 D vwCl (tyE dI) A (wE dI ad) rvV) (f_W_obey_92 m1 x3 x4 x5 x6 x7 s) (F0 m 92 ls []) s := by
  unfold f_W_obey_92
  refine gg_aload_n X 92 d_W_obey_92 rfl (lv_at hl 1 rfl) ?_
  refine gg_dup X 93 d_W_obey_93 rfl ?_
  refine gg_get_C_pc X 94 hm1 (Or.inr ⟨_, nw_3⟩) d_W_obey_94 ?_
  refine gg_iconst X 97 (1 : Int32) d_W_obey_97 (by decide) ?_
  refine gg_iadd X 98 d_W_obey_98 ?_
  refine gg_put_C_pc X 99 hm1 (Or.inr ⟨_, nw_3⟩) d_W_obey_99 (fun s1 => ?_)
  refine gg_iload_n X 102 d_W_obey_102 rfl (lv_at hl 2 rfl) ?_
  refine gg_eqc (fun h2 => ?_) (fun h2 => ?_)
  · refine gg_tin X 103 152 d_W_obey_103 h2 (by decide) (by decide) rfl rfl ?_
    refine gg_aload_n X 152 d_W_obey_152 rfl (lv_at hl 1 rfl) ?_
    refine gg_iload X 153 d_W_obey_153 (lv_at hl 3 rfl) ?_
    refine gg_iload X 155 d_W_obey_155 (lv_at hl 6 rfl) ?_
    refine gg_callVN X 157 nwOk_E [.int x4, .int x7] [] (fun _ _ h sz => M_C_put l D dI ad _ m1 x4 x7 hm1 h sz) (⟨va_cnB 2 X.1.2.2.2.2 (gwB w_137) rfl rfl rfl (X.2.2.2.2.2 _ nw_13) (X.1.2.2.2.2 _ (List.mem_cons_of_mem _ w_4)) (by decide +kernel) ⟨by decide, by decide⟩, X.1.2.2.2.2 _ (List.mem_cons_of_mem _ w_136), X.1.2.2.2.2 _ (List.mem_cons_of_mem _ ws_C_put)⟩) (he_E_Core hm1) rfl rfl hl.1 rfl (Nat.le_of_ble_eq_true rfl) ⟨Nat.zero_le _, Nat.zero_le _⟩ d_W_obey_157 (fun r3 s4 ho5 => ?_)
    refine gg_show_v ?_
    refine gg_goto X 160 318 d_W_obey_160 rfl ?_
    exact gg_vret X 318 d_W_obey_318
  refine gg_eqc (fun h6 => ?_) (fun h6 => ?_)
  · refine gg_tin X 103 163 d_W_obey_103 h6 (by decide) (by decide) rfl rfl ?_
    refine gg_aload_n X 163 d_W_obey_163 rfl (lv_at hl 1 rfl) ?_
    refine gg_iload X 164 d_W_obey_164 (lv_at hl 3 rfl) ?_
    refine gg_iload X 166 d_W_obey_166 (lv_at hl 4 rfl) ?_
    refine gg_iload X 168 d_W_obey_168 (lv_at hl 6 rfl) ?_
    refine gg_iadd X 170 d_W_obey_170 ?_
    refine gg_callVN X 171 nwOk_E [.int x4, .int (x5 + x7)] [] (fun _ _ h sz => M_C_put l D dI ad _ m1 x4 (x5 + x7) hm1 h sz) (⟨va_cnB 2 X.1.2.2.2.2 (gwB w_137) rfl rfl rfl (X.2.2.2.2.2 _ nw_13) (X.1.2.2.2.2 _ (List.mem_cons_of_mem _ w_4)) (by decide +kernel) ⟨by decide, by decide⟩, X.1.2.2.2.2 _ (List.mem_cons_of_mem _ w_136), X.1.2.2.2.2 _ (List.mem_cons_of_mem _ ws_C_put)⟩) (he_E_Core hm1) rfl rfl hl.1 rfl (Nat.le_of_ble_eq_true rfl) ⟨Nat.zero_le _, Nat.zero_le _⟩ d_W_obey_171 (fun r7 s8 ho9 => ?_)
    refine gg_show_v ?_
    refine gg_goto X 174 318 d_W_obey_174 rfl ?_
    exact gg_vret X 318 d_W_obey_318
  refine gg_eqc (fun h10 => ?_) (fun h10 => ?_)
  · refine gg_tin X 103 177 d_W_obey_103 h10 (by decide) (by decide) rfl rfl ?_
    refine gg_aload_n X 177 d_W_obey_177 rfl (lv_at hl 1 rfl) ?_
    refine gg_iload X 178 d_W_obey_178 (lv_at hl 3 rfl) ?_
    refine gg_iload X 180 d_W_obey_180 (lv_at hl 4 rfl) ?_
    refine gg_iload X 182 d_W_obey_182 (lv_at hl 5 rfl) ?_
    refine gg_iadd X 184 d_W_obey_184 ?_
    refine gg_callVN X 185 nwOk_E [.int x4, .int (x5 + x6)] [] (fun _ _ h sz => M_C_put l D dI ad _ m1 x4 (x5 + x6) hm1 h sz) (⟨va_cnB 2 X.1.2.2.2.2 (gwB w_137) rfl rfl rfl (X.2.2.2.2.2 _ nw_13) (X.1.2.2.2.2 _ (List.mem_cons_of_mem _ w_4)) (by decide +kernel) ⟨by decide, by decide⟩, X.1.2.2.2.2 _ (List.mem_cons_of_mem _ w_136), X.1.2.2.2.2 _ (List.mem_cons_of_mem _ ws_C_put)⟩) (he_E_Core hm1) rfl rfl hl.1 rfl (Nat.le_of_ble_eq_true rfl) ⟨Nat.zero_le _, Nat.zero_le _⟩ d_W_obey_185 (fun r11 s12 ho13 => ?_)
    refine gg_show_v ?_
    refine gg_goto X 188 318 d_W_obey_188 rfl ?_
    exact gg_vret X 318 d_W_obey_318
  refine gg_eqc (fun h14 => ?_) (fun h14 => ?_)
  · refine gg_tin X 103 191 d_W_obey_103 h14 (by decide) (by decide) rfl rfl ?_
    refine gg_aload_n X 191 d_W_obey_191 rfl (lv_at hl 1 rfl) ?_
    refine gg_iload X 192 d_W_obey_192 (lv_at hl 3 rfl) ?_
    refine gg_iload X 194 d_W_obey_194 (lv_at hl 4 rfl) ?_
    refine gg_iload X 196 d_W_obey_196 (lv_at hl 5 rfl) ?_
    refine gg_isub X 198 d_W_obey_198 ?_
    refine gg_callVN X 199 nwOk_E [.int x4, .int (x5 - x6)] [] (fun _ _ h sz => M_C_put l D dI ad _ m1 x4 (x5 - x6) hm1 h sz) (⟨va_cnB 2 X.1.2.2.2.2 (gwB w_137) rfl rfl rfl (X.2.2.2.2.2 _ nw_13) (X.1.2.2.2.2 _ (List.mem_cons_of_mem _ w_4)) (by decide +kernel) ⟨by decide, by decide⟩, X.1.2.2.2.2 _ (List.mem_cons_of_mem _ w_136), X.1.2.2.2.2 _ (List.mem_cons_of_mem _ ws_C_put)⟩) (he_E_Core hm1) rfl rfl hl.1 rfl (Nat.le_of_ble_eq_true rfl) ⟨Nat.zero_le _, Nat.zero_le _⟩ d_W_obey_199 (fun r15 s16 ho17 => ?_)
    refine gg_show_v ?_
    refine gg_goto X 202 318 d_W_obey_202 rfl ?_
    exact gg_vret X 318 d_W_obey_318
  refine gg_eqc (fun h18 => ?_) (fun h18 => ?_)
  · refine gg_tin X 103 205 d_W_obey_103 h18 (by decide) (by decide) rfl rfl ?_
    refine gg_aload_n X 205 d_W_obey_205 rfl (lv_at hl 1 rfl) ?_
    refine gg_iload X 206 d_W_obey_206 (lv_at hl 3 rfl) ?_
    refine gg_iload X 208 d_W_obey_208 (lv_at hl 4 rfl) ?_
    refine gg_iload X 210 d_W_obey_210 (lv_at hl 5 rfl) ?_
    refine gg_imul X 212 d_W_obey_212 ?_
    refine gg_callVN X 213 nwOk_E [.int x4, .int (x5 * x6)] [] (fun _ _ h sz => M_C_put l D dI ad _ m1 x4 (x5 * x6) hm1 h sz) (⟨va_cnB 2 X.1.2.2.2.2 (gwB w_137) rfl rfl rfl (X.2.2.2.2.2 _ nw_13) (X.1.2.2.2.2 _ (List.mem_cons_of_mem _ w_4)) (by decide +kernel) ⟨by decide, by decide⟩, X.1.2.2.2.2 _ (List.mem_cons_of_mem _ w_136), X.1.2.2.2.2 _ (List.mem_cons_of_mem _ ws_C_put)⟩) (he_E_Core hm1) rfl rfl hl.1 rfl (Nat.le_of_ble_eq_true rfl) ⟨Nat.zero_le _, Nat.zero_le _⟩ d_W_obey_213 (fun r19 s20 ho21 => ?_)
    refine gg_show_v ?_
    refine gg_goto X 216 318 d_W_obey_216 rfl ?_
    exact gg_vret X 318 d_W_obey_318
  refine gg_eqc (fun h22 => ?_) (fun h22 => ?_)
  · refine gg_tin X 103 219 d_W_obey_103 h22 (by decide) (by decide) rfl rfl ?_
    refine gg_aload_n X 219 d_W_obey_219 rfl (lv_at hl 1 rfl) ?_
    refine gg_iload X 220 d_W_obey_220 (lv_at hl 3 rfl) ?_
    refine gg_iload X 222 d_W_obey_222 (lv_at hl 4 rfl) ?_
    refine gg_iload X 224 d_W_obey_224 (lv_at hl 5 rfl) ?_
    refine gg_ixor X 226 d_W_obey_226 ?_
    refine gg_callVN X 227 nwOk_E [.int x4, .int (x5 ^^^ x6)] [] (fun _ _ h sz => M_C_put l D dI ad _ m1 x4 (x5 ^^^ x6) hm1 h sz) (⟨va_cnB 2 X.1.2.2.2.2 (gwB w_137) rfl rfl rfl (X.2.2.2.2.2 _ nw_13) (X.1.2.2.2.2 _ (List.mem_cons_of_mem _ w_4)) (by decide +kernel) ⟨by decide, by decide⟩, X.1.2.2.2.2 _ (List.mem_cons_of_mem _ w_136), X.1.2.2.2.2 _ (List.mem_cons_of_mem _ ws_C_put)⟩) (he_E_Core hm1) rfl rfl hl.1 rfl (Nat.le_of_ble_eq_true rfl) ⟨Nat.zero_le _, Nat.zero_le _⟩ d_W_obey_227 (fun r23 s24 ho25 => ?_)
    refine gg_show_v ?_
    refine gg_goto X 230 318 d_W_obey_230 rfl ?_
    exact gg_vret X 318 d_W_obey_318
  refine gg_eqc (fun h26 => ?_) (fun h26 => ?_)
  · refine gg_tin X 103 233 d_W_obey_103 h26 (by decide) (by decide) rfl rfl ?_
    refine gg_aload_n X 233 d_W_obey_233 rfl (lv_at hl 1 rfl) ?_
    refine gg_iload X 234 d_W_obey_234 (lv_at hl 3 rfl) ?_
    refine gg_aload_n X 236 d_W_obey_236 rfl (lv_at hl 0 rfl) ?_
    refine gg_get_W_memory X 237 (Or.inl (List.mem_cons_of_mem _ w_81)) d_W_obey_237 ?_
    refine gg_iload X 240 d_W_obey_240 (lv_at hl 4 rfl) ?_
    refine gg_iload X 242 d_W_obey_242 (lv_at hl 6 rfl) ?_
    refine gg_iadd X 244 d_W_obey_244 ?_
    refine gg_ald_MEM X 245 d_W_obey_245 ?_
    refine gg_callVN X 246 nwOk_E [.int x4, .int (s1 0 (Int32.toNatClampNeg (x5 + x7)))] [] (fun _ _ h sz => M_C_put l D dI ad _ m1 x4 (s1 0 (Int32.toNatClampNeg (x5 + x7))) hm1 h sz) (⟨va_cnB 2 X.1.2.2.2.2 (gwB w_137) rfl rfl rfl (X.2.2.2.2.2 _ nw_13) (X.1.2.2.2.2 _ (List.mem_cons_of_mem _ w_4)) (by decide +kernel) ⟨by decide, by decide⟩, X.1.2.2.2.2 _ (List.mem_cons_of_mem _ w_136), X.1.2.2.2.2 _ (List.mem_cons_of_mem _ ws_C_put)⟩) (he_E_Core hm1) rfl rfl hl.1 rfl (Nat.le_of_ble_eq_true rfl) ⟨Nat.zero_le _, Nat.zero_le _⟩ d_W_obey_246 (fun r27 s28 ho29 => ?_)
    refine gg_show_v ?_
    refine gg_goto X 249 318 d_W_obey_249 rfl ?_
    exact gg_vret X 318 d_W_obey_318
  refine gg_eqc (fun h30 => ?_) (fun h30 => ?_)
  · refine gg_tin X 103 252 d_W_obey_103 h30 (by decide) (by decide) rfl rfl ?_
    refine gg_aload_n X 252 d_W_obey_252 rfl (lv_at hl 0 rfl) ?_
    refine gg_get_W_memory X 253 (Or.inl (List.mem_cons_of_mem _ w_81)) d_W_obey_253 ?_
    refine gg_iload X 256 d_W_obey_256 (lv_at hl 4 rfl) ?_
    refine gg_iload X 258 d_W_obey_258 (lv_at hl 6 rfl) ?_
    refine gg_iadd X 260 d_W_obey_260 ?_
    refine gg_aload_n X 261 d_W_obey_261 rfl (lv_at hl 1 rfl) ?_
    refine gg_iload X 262 d_W_obey_262 (lv_at hl 3 rfl) ?_
    refine gg_callVN X 264 nwOk_E [.int x4] [.int (x5 + x7), .ref (ad 1)] (fun _ _ h sz => M_C_get l D dI ad _ m1 x4 hm1 h sz) (⟨va_cnB 1 X.1.2.2.2.2 (gwB w_145) rfl rfl rfl (X.2.2.2.2.2 _ nw_14) (X.1.2.2.2.2 _ (List.mem_cons_of_mem _ w_4)) (by decide +kernel) ⟨by decide, by decide⟩, X.1.2.2.2.2 _ (List.mem_cons_of_mem _ w_144), X.1.2.2.2.2 _ (List.mem_cons_of_mem _ ws_C_get)⟩) (he_E_Core hm1) rfl rfl hl.1 rfl (Nat.le_of_ble_eq_true rfl) ⟨Nat.zero_le _, Nat.zero_le _⟩ d_W_obey_264 (fun r31 s32 ho33 => ?_)
    refine gg_show_i ?_
    refine gg_ast_MEM X 267 d_W_obey_267 (fun s34 => ?_)
    refine gg_goto X 268 318 d_W_obey_268 rfl ?_
    exact gg_vret X 318 d_W_obey_318
  refine gg_eqc (fun h35 => ?_) (fun h35 => ?_)
  · refine gg_tin X 103 271 d_W_obey_103 h35 (by decide) (by decide) rfl rfl ?_
    refine gg_aload_n X 271 d_W_obey_271 rfl (lv_at hl 1 rfl) ?_
    refine gg_aload_n X 272 d_W_obey_272 rfl (lv_at hl 1 rfl) ?_
    refine gg_iload X 273 d_W_obey_273 (lv_at hl 3 rfl) ?_
    refine gg_callVN X 275 nwOk_E [.int x4] [.ref (ad (17 + m1))] (fun _ _ h sz => M_C_get l D dI ad _ m1 x4 hm1 h sz) (⟨va_cnB 1 X.1.2.2.2.2 (gwB w_145) rfl rfl rfl (X.2.2.2.2.2 _ nw_14) (X.1.2.2.2.2 _ (List.mem_cons_of_mem _ w_4)) (by decide +kernel) ⟨by decide, by decide⟩, X.1.2.2.2.2 _ (List.mem_cons_of_mem _ w_144), X.1.2.2.2.2 _ (List.mem_cons_of_mem _ ws_C_get)⟩) (he_E_Core hm1) rfl rfl hl.1 rfl (Nat.le_of_ble_eq_true rfl) ⟨Nat.zero_le _, Nat.zero_le _⟩ d_W_obey_275 (fun r36 s37 ho38 => ?_)
    refine gg_show_i ?_
    refine gg_iload X 278 d_W_obey_278 (lv_at hl 4 rfl) ?_
    refine gg_icmp_ne X 280 287 d_W_obey_280 rfl (fun _ => ?_) (fun _ => ?_)
    · refine gg_iconst X 287 (0 : Int32) d_W_obey_287 (by decide) ?_
      exact t_W_obey_288 X x7 m1 (0 : Int32) s37 _ hm1 (lv_sub hl [6] rfl)
    · refine gg_iconst X 283 (1 : Int32) d_W_obey_283 (by decide) ?_
      refine gg_goto X 284 288 d_W_obey_284 rfl ?_
      exact t_W_obey_288 X x7 m1 (1 : Int32) s37 _ hm1 (lv_sub hl [6] rfl)
  refine gg_tout X 103 296 d_W_obey_103 (by have q0 := lv_neT (a := 1) h2 (by decide); have q1 := lv_neT (a := 2) h6 (by decide); have q2 := lv_neT (a := 3) h10 (by decide); have q3 := lv_neT (a := 4) h14 (by decide); have q4 := lv_neT (a := 5) h18 (by decide); have q5 := lv_neT (a := 6) h22 (by decide); have q6 := lv_neT (a := 7) h26 (by decide); have q7 := lv_neT (a := 8) h30 (by decide); have q8 := lv_neT (a := 9) h35 (by decide); omega) rfl ?_
  refine gg_aload_n X 296 d_W_obey_296 rfl (lv_at hl 1 rfl) ?_
  refine gg_aload_n X 297 d_W_obey_297 rfl (lv_at hl 1 rfl) ?_
  refine gg_iload X 298 d_W_obey_298 (lv_at hl 3 rfl) ?_
  refine gg_callVN X 300 nwOk_E [.int x4] [.ref (ad (17 + m1))] (fun _ _ h sz => M_C_get l D dI ad _ m1 x4 hm1 h sz) (⟨va_cnB 1 X.1.2.2.2.2 (gwB w_145) rfl rfl rfl (X.2.2.2.2.2 _ nw_14) (X.1.2.2.2.2 _ (List.mem_cons_of_mem _ w_4)) (by decide +kernel) ⟨by decide, by decide⟩, X.1.2.2.2.2 _ (List.mem_cons_of_mem _ w_144), X.1.2.2.2.2 _ (List.mem_cons_of_mem _ ws_C_get)⟩) (he_E_Core hm1) rfl rfl hl.1 rfl (Nat.le_of_ble_eq_true rfl) ⟨Nat.zero_le _, Nat.zero_le _⟩ d_W_obey_300 (fun r39 s40 ho41 => ?_)
  refine gg_show_i ?_
  refine gg_iload X 303 d_W_obey_303 (lv_at hl 4 rfl) ?_
  refine gg_icmp_ge X 305 312 d_W_obey_305 rfl (fun _ => ?_) (fun _ => ?_)
  · refine gg_iconst X 312 (0 : Int32) d_W_obey_312 (by decide) ?_
    exact t_W_obey_313 X x7 m1 (0 : Int32) s40 _ hm1 (lv_sub hl [6] rfl)
  · refine gg_iconst X 308 (1 : Int32) d_W_obey_308 (by decide) ?_
    refine gg_goto X 309 313 d_W_obey_309 rfl ?_
    exact t_W_obey_313 X x7 m1 (1 : Int32) s40 _ hm1 (lv_sub hl [6] rfl)
set_option maxHeartbeats 4000000 in
set_option maxRecDepth 100000 in
theorem t_W_obey_74 {p : Program} {l : Launch} {e : Env} {s0 : State} {m : MethodId} {args : Array Value} {below : List Frame} {meth : Method} {c : Code} {D : va_G} {A : Nat → Prop} {dI : Nat → ClassId} {ad : Nat → Nat} (X : CX p s0 m args meth c D vwCl (tyE dI) nwE A prog_1_method_33_code 8 none (Cond.code y_W_obey prog_1_method_33_code 8 none :: WS) R_W) (m1 : Nat) (x3 : Int32) (x4 : Int32) (x5 : Int32) (x6 : Int32) (x7 : Int32) (s : eS) (ls : Array Slot) (hm1 : m1 < 7) (hl : lv_has ls 8 [(0, .ref (ad 0)), (1, .ref (ad (17 + m1))), (3, .int x3), (4, .int x4), (5, .int x5), (6, .int x6), (7, .int x7)]) : GG p l e rm_W_obey s0 m args below meth c D vwCl (tyE dI) A (wE dI ad) 0 0 (QM below args s0 D vwCl (tyE dI) A (wE dI ad) rvV) (f_W_obey_74 m1 x3 x4 x5 x6 x7 s) (F0 m 74 ls []) s := by
  unfold f_W_obey_74
  refine gg_aload_n X 74 d_W_obey_74 rfl (lv_at hl 0 rfl) ?_
  refine gg_iload X 75 d_W_obey_75 (lv_at hl 4 rfl) ?_
  refine gg_iload X 77 d_W_obey_77 (lv_at hl 6 rfl) ?_
  refine gg_iadd X 79 d_W_obey_79 ?_
  refine gg_callV X 80 nwOk_E [.int (x5 + x7)] [] (fun _ _ h sz => M_W_runnerMayUse l D dI ad _ (x5 + x7)  h sz) (cwV 1 X.1.2.2.2.2 (gwV w_277 w_279 ws_W_runnerMayUse w_1 w_280) rfl rfl rfl (by decide +kernel) ⟨by decide, by decide⟩) (he_E_Main) rfl rfl hl.1 rfl (Nat.le_of_ble_eq_true rfl) ⟨Nat.zero_le _, Nat.zero_le _⟩ d_W_obey_80 (fun r1 s2 ho3 => ?_)
  refine gg_show_i ?_
  refine gg_if_ne X 83 92 d_W_obey_83 rfl (fun _ => ?_) (fun _ => ?_)
  · exact t_W_obey_92 X m1 x3 x4 x5 x6 x7 s2 _ hm1 (lv_sub hl [0, 1, 2, 3, 4, 5, 6] rfl)
  · refine gg_aload_n X 86 d_W_obey_86 rfl (lv_at hl 0 rfl) ?_
    refine gg_iconst X 87 (3 : Int32) d_W_obey_87 (by decide) ?_
    refine gg_callV X 88 nwOk_E [.int (3 : Int32)] [] (fun _ _ h sz => M_W_fault l D dI ad _ (3 : Int32)  h sz) (cwV 1 X.1.2.2.2.2 (gwV w_285 w_287 ws_W_fault w_1 w_288) rfl rfl rfl (by decide +kernel) ⟨by decide, by decide⟩) (he_E_Main) rfl rfl hl.1 rfl (Nat.le_of_ble_eq_true rfl) ⟨Nat.zero_le _, Nat.zero_le _⟩ d_W_obey_88 (fun r4 s5 ho6 => ?_)
    refine gg_show_v ?_
    exact gg_vret X 91 d_W_obey_91
set_option maxHeartbeats 4000000 in
set_option maxRecDepth 100000 in
theorem t_W_obey {p : Program} {l : Launch} {e : Env} {s0 : State} {m : MethodId} {args : Array Value} {below : List Frame} {meth : Method} {c : Code} {D : va_G} {A : Nat → Prop} {dI : Nat → ClassId} {ad : Nat → Nat} (X : CX p s0 m args meth c D vwCl (tyE dI) nwE A prog_1_method_33_code 8 none (Cond.code y_W_obey prog_1_method_33_code 8 none :: WS) R_W) (n1 : Nat) (a2 : Int32) (s : eS) (ls : Array Slot) (hb1 : n1 < 7) (hl : lv_has ls 8 [(0, .ref (ad 0)), (1, .ref (ad (17 + n1))), (2, .int a2)]) : GG p l e rm_W_obey s0 m args below meth c D vwCl (tyE dI) A (wE dI ad) 0 0 (QM below args s0 D vwCl (tyE dI) A (wE dI ad) rvV) (f_W_obey n1 a2 s) (F0 m 0 ls []) s := by
  unfold f_W_obey
  refine gg_iload_n X 0 d_W_obey_0 rfl (lv_at hl 2 rfl) ?_
  refine gg_bipush X 1 (15 : Int32) d_W_obey_1 (by decide) ?_
  refine gg_iand X 3 d_W_obey_3 ?_
  refine gg_istore_n X 4 (fun v1 => [(3, .int v1), (0, .ref (ad 0)), (1, .ref (ad (17 + n1))), (2, .int a2)]) d_W_obey_4 rfl hl (by decide) (fun _ => rfl) (fun v1 ls hl => ?_)
  refine gg_iload_n X 5 d_W_obey_5 rfl (lv_at hl 3 rfl) ?_
  refine gg_iconst X 6 (4 : Int32) d_W_obey_6 (by decide) ?_
  refine gg_ishr X 7 d_W_obey_7 ?_
  refine gg_bipush X 8 (7 : Int32) d_W_obey_8 (by decide) ?_
  refine gg_iand X 10 d_W_obey_10 ?_
  refine gg_istore X 11 (fun v2 => [(4, .int v2), (3, .int v1), (0, .ref (ad 0)), (1, .ref (ad (17 + n1))), (2, .int a2)]) d_W_obey_11 hl (by decide) (fun _ => rfl) (fun v2 ls hl => ?_)
  refine gg_aload_n X 13 d_W_obey_13 rfl (lv_at hl 3 rfl) ?_
  refine gg_iload_n X 14 d_W_obey_14 rfl (lv_at hl 4 rfl) ?_
  refine gg_bipush X 15 (7 : Int32) d_W_obey_15 (by decide) ?_
  refine gg_ishr X 17 d_W_obey_17 ?_
  refine gg_bipush X 18 (7 : Int32) d_W_obey_18 (by decide) ?_
  refine gg_iand X 20 d_W_obey_20 ?_
  refine gg_callVN X 21 nwOk_E [.int ((a2 >>> ((7 : Int32) &&& 31)) &&& (7 : Int32))] [] (fun _ _ h sz => M_C_get l D dI ad _ n1 ((a2 >>> ((7 : Int32) &&& 31)) &&& (7 : Int32)) hb1 h sz) (⟨va_cnB 1 X.1.2.2.2.2 (gwB w_145) rfl rfl rfl (X.2.2.2.2.2 _ nw_14) (X.1.2.2.2.2 _ (List.mem_cons_of_mem _ w_4)) (by decide +kernel) ⟨by decide, by decide⟩, X.1.2.2.2.2 _ (List.mem_cons_of_mem _ w_144), X.1.2.2.2.2 _ (List.mem_cons_of_mem _ ws_C_get)⟩) (he_E_Core hb1) rfl rfl hl.1 rfl (Nat.le_of_ble_eq_true rfl) ⟨Nat.zero_le _, Nat.zero_le _⟩ d_W_obey_21 (fun r3 s4 ho5 => ?_)
  refine gg_show_i ?_
  refine gg_istore X 24 (fun v6 => [(5, .int v6), (4, .int v2), (3, .int v1), (0, .ref (ad 0)), (1, .ref (ad (17 + n1))), (2, .int a2)]) d_W_obey_24 hl (by decide) (fun _ => rfl) (fun v6 ls hl => ?_)
  refine gg_aload_n X 26 d_W_obey_26 rfl (lv_at hl 4 rfl) ?_
  refine gg_iload_n X 27 d_W_obey_27 rfl (lv_at hl 5 rfl) ?_
  refine gg_bipush X 28 (10 : Int32) d_W_obey_28 (by decide) ?_
  refine gg_ishr X 30 d_W_obey_30 ?_
  refine gg_bipush X 31 (7 : Int32) d_W_obey_31 (by decide) ?_
  refine gg_iand X 33 d_W_obey_33 ?_
  refine gg_callVN X 34 nwOk_E [.int ((a2 >>> ((10 : Int32) &&& 31)) &&& (7 : Int32))] [] (fun _ _ h sz => M_C_get l D dI ad _ n1 ((a2 >>> ((10 : Int32) &&& 31)) &&& (7 : Int32)) hb1 h sz) (⟨va_cnB 1 X.1.2.2.2.2 (gwB w_145) rfl rfl rfl (X.2.2.2.2.2 _ nw_14) (X.1.2.2.2.2 _ (List.mem_cons_of_mem _ w_4)) (by decide +kernel) ⟨by decide, by decide⟩, X.1.2.2.2.2 _ (List.mem_cons_of_mem _ w_144), X.1.2.2.2.2 _ (List.mem_cons_of_mem _ ws_C_get)⟩) (he_E_Core hb1) rfl rfl hl.1 rfl (Nat.le_of_ble_eq_true rfl) ⟨Nat.zero_le _, Nat.zero_le _⟩ d_W_obey_34 (fun r7 s8 ho9 => ?_)
  refine gg_show_i ?_
  refine gg_istore X 37 (fun v10 => [(6, .int v10), (5, .int v6), (4, .int v2), (3, .int v1), (0, .ref (ad 0)), (1, .ref (ad (17 + n1))), (2, .int a2)]) d_W_obey_37 hl (by decide) (fun _ => rfl) (fun v10 ls hl => ?_)
  refine gg_iload_n X 39 d_W_obey_39 rfl (lv_at hl 6 rfl) ?_
  refine gg_bipush X 40 (16 : Int32) d_W_obey_40 (by decide) ?_
  refine gg_ishr X 42 d_W_obey_42 ?_
  refine gg_istore X 43 (fun v11 => [(7, .int v11), (6, .int v10), (5, .int v6), (4, .int v2), (3, .int v1), (0, .ref (ad 0)), (1, .ref (ad (17 + n1))), (2, .int a2)]) d_W_obey_43 hl (by decide) (fun _ => rfl) (fun v11 ls hl => ?_)
  refine gg_iload_n X 45 d_W_obey_45 rfl (lv_at hl 4 rfl) ?_
  refine gg_iconst X 46 (1 : Int32) d_W_obey_46 (by decide) ?_
  refine gg_icmp_lt X 47 56 d_W_obey_47 rfl (fun _ => ?_) (fun _ => ?_)
  · exact t_W_obey_56 X s8 _  (lv_sub hl [5] rfl)
  · refine gg_iload_n X 50 d_W_obey_50 rfl (lv_at hl 4 rfl) ?_
    refine gg_bipush X 51 (10 : Int32) d_W_obey_51 (by decide) ?_
    refine gg_icmp_le X 53 62 d_W_obey_53 rfl (fun _ => ?_) (fun _ => ?_)
    · refine gg_iload_n X 62 d_W_obey_62 rfl (lv_at hl 4 rfl) ?_
      refine gg_bipush X 63 (7 : Int32) d_W_obey_63 (by decide) ?_
      refine gg_icmp_eq X 65 74 d_W_obey_65 rfl (fun _ => ?_) (fun _ => ?_)
      · exact t_W_obey_74 X n1 v1 v2 v6 v10 v11 s8 _ hb1 (lv_sub hl [5, 6, 4, 3, 2, 1, 0] rfl)
      · refine gg_iload_n X 68 d_W_obey_68 rfl (lv_at hl 4 rfl) ?_
        refine gg_bipush X 69 (8 : Int32) d_W_obey_69 (by decide) ?_
        refine gg_icmp_ne X 71 92 d_W_obey_71 rfl (fun _ => ?_) (fun _ => ?_)
        · exact t_W_obey_92 X n1 v1 v2 v6 v10 v11 s8 _ hb1 (lv_sub hl [5, 6, 4, 3, 2, 1, 0] rfl)
        · exact t_W_obey_74 X n1 v1 v2 v6 v10 v11 s8 _ hb1 (lv_sub hl [5, 6, 4, 3, 2, 1, 0] rfl)
    · exact t_W_obey_56 X s8 _  (lv_sub hl [5] rfl)
theorem M_W_obey (l : Launch) (D : va_G) (dI : Nat → ClassId) (ad : Nat → Nat) (s : eS) (n1 : Nat) (a2 : Int32) (hb1 : n1 < 7) {r : Unit} {s' : eS} (h : f_W_obey n1 a2 s = some (r, s')) (sz : Nat) : Met l y_W_obey (Cond.code y_W_obey prog_1_method_33_code 8 none :: WS) rm_W_obey (Px (wE dI ad) D vwCl (tyE dI) nwE sz s [.ref (ad 0), .ref (ad (17 + n1)), .int a2]) (Qx rvV (wE dI ad) D vwCl (tyE dI) (va_A ((wE dI ad) s) sz) r s') 0 0 (va_A ((wE dI ad) s) sz) :=
  met_of [.ref (ad 0), .ref (ad (17 + n1)), .int a2] (by decide) rfl rfl (Nat.le_of_ble_eq_true rfl) h (fun p e s0 m args below meth c A ls X hl => t_W_obey X n1 a2 s ls hb1 hl)
