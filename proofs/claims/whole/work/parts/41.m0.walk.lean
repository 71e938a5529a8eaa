set_option maxHeartbeats 4000000 in
set_option maxRecDepth 100000 in
theorem t_M_outside_9 {p : Program} {l : Launch} {e : Env} {s0 : State} {m : MethodId} {args : Array Value} {below : List Frame} {meth : Method} {c : Code} {D : va_G} {A : Nat → Prop} {dI : Nat → ClassId} {ad : Nat → Nat} (X : CX p s0 m args meth c D vwCl (tyM dI) [] A prog_6_method_2_code 2 (some .boolean) (Cond.code y_M_outside prog_6_method_2_code 2 (some .boolean) :: WS) R_M)  (s : eS) (ls : Array Slot)  (hl : lv_has ls 2 []) : GG p l e rm_M_outside s0 m args below meth c D vwCl (tyM dI) A (wM dI ad) 0 0 (QM below args s0 D vwCl (tyM dI) A (wM dI ad) rvI) (f_M_outside_9 s) (F0 m 9 ls []) s := by
  unfold f_M_outside_9
  refine gg_iconst X 9 (1 : Int32) d_M_outside_9 (by decide) ?_
  refine gg_goto X 10 14 d_M_outside_10 rfl ?_
  exact gg_zretk X 14 rfl d_M_outside_14
set_option maxHeartbeats 4000000 in
set_option maxRecDepth 100000 in
theorem t_M_outside {p : Program} {l : Launch} {e : Env} {s0 : State} {m : MethodId} {args : Array Value} {below : List Frame} {meth : Method} {c : Code} {D : va_G} {A : Nat → Prop} {dI : Nat → ClassId} {ad : Nat → Nat} (X : CX p s0 m args meth c D vwCl (tyM dI) [] A prog_6_method_2_code 2 (some .boolean) (Cond.code y_M_outside prog_6_method_2_code 2 (some .boolean) :: WS) R_M) (a0 : Int32) (a1 : Int32) (s : eS) (ls : Array Slot)  (hl : lv_has ls 2 [(0, .int a0), (1, .int a1)]) : GG p l e rm_M_outside s0 m args below meth c D vwCl (tyM dI) A (wM dI ad) 0 0 (QM below args s0 D vwCl (tyM dI) A (wM dI ad) rvI) (f_M_outside a0 a1 s) (F0 m 0 ls []) s := by
  unfold f_M_outside
  refine gg_iload_n X 0 d_M_outside_0 rfl (lv_at hl 0 rfl) ?_
  refine gg_if_lt X 1 9 d_M_outside_1 rfl (fun _ => ?_) (fun _ => ?_)
  · exact t_M_outside_9 X s _  (lv_sub hl [] rfl)
  · refine gg_iload_n X 4 d_M_outside_4 rfl (lv_at hl 0 rfl) ?_
    refine gg_iload_n X 5 d_M_outside_5 rfl (lv_at hl 1 rfl) ?_
    refine gg_icmp_le X 6 13 d_M_outside_6 rfl (fun _ => ?_) (fun _ => ?_)
    · refine gg_iconst X 13 (0 : Int32) d_M_outside_13 (by decide) ?_
      exact gg_zretk X 14 rfl d_M_outside_14
    · exact t_M_outside_9 X s _  (lv_sub hl [] rfl)
theorem M_M_outside (l : Launch) (D : va_G) (dI : Nat → ClassId) (ad : Nat → Nat) (s : eS) (a0 : Int32) (a1 : Int32)  {r : Int32} {s' : eS} (h : f_M_outside a0 a1 s = some (r, s')) (sz : Nat) : Met l y_M_outside (Cond.code y_M_outside prog_6_method_2_code 2 (some .boolean) :: WS) rm_M_outside (Px (wM dI ad) D vwCl (tyM dI) [] sz s [.int a0, .int a1]) (Qx rvI (wM dI ad) D vwCl (tyM dI) (va_A ((wM dI ad) s) sz) r s') 0 0 (va_A ((wM dI ad) s) sz) :=
  met_of [.int a0, .int a1] (by decide) rfl rfl (Nat.le_of_ble_eq_true rfl) h (fun p e s0 m args below meth c A ls X hl => t_M_outside X a0 a1 s ls  hl)
set_option maxHeartbeats 4000000 in
set_option maxRecDepth 100000 in
theorem t_M_kind_2 {p : Program} {l : Launch} {e : Env} {s0 : State} {m : MethodId} {args : Array Value} {below : List Frame} {meth : Method} {c : Code} {D : va_G} {A : Nat → Prop} {dI : Nat → ClassId} {ad : Nat → Nat} (X : CX p s0 m args meth c D vwCl (tyM dI) [] A prog_6_method_3_code 3 (some .int) (Cond.code y_M_kind prog_6_method_3_code 3 (some .int) :: WS) R_M) : ∀ (fl : Nat) (x1 : Int32) (x2 : Int32) (s : eS) (ls : Array Slot), lv_has ls 3 [(0, .ref (ad 0)), (1, .int x1), (2, .int x2)] → GG p l e rm_M_kind s0 m args below meth c D vwCl (tyM dI) A (wM dI ad) 0 0 (QM below args s0 D vwCl (tyM dI) A (wM dI ad) rvI) (f_M_kind_2 fl x1 x2 s) (F0 m 2 ls []) s := by
  intro fl
  induction fl with
  | zero =>
    intro x1 x2 s ls hl
    rw [f_M_kind_2]
    exact gg_none
  | succ fl ih =>
    intro x1 x2 s ls hl
    rw [f_M_kind_2]
    refine gg_iload_n X 2 d_M_kind_2 rfl (lv_at hl 2 rfl) ?_
    refine gg_iconst X 3 (3 : Int32) d_M_kind_3 (by decide) ?_
    refine gg_icmp_ge X 4 53 d_M_kind_4 rfl (fun _ => ?_) (fun _ => ?_)
    · refine gg_aload_n X 53 d_M_kind_53 rfl (lv_at hl 0 rfl) ?_
      refine gg_get_M_partner X 54 (Or.inl (List.mem_cons_of_mem _ w_361)) d_M_kind_54 ?_
      refine gg_iload_n X 57 d_M_kind_57 rfl (lv_at hl 1 rfl) ?_
      refine gg_ald_A_partner X 58 d_M_kind_58 ?_
      refine gg_if_le X 59 71 d_M_kind_59 rfl (fun _ => ?_) (fun _ => ?_)
      · refine gg_aload_n X 71 d_M_kind_71 rfl (lv_at hl 0 rfl) ?_
        refine gg_get_M_own X 72 (Or.inl (List.mem_cons_of_mem _ w_360)) d_M_kind_72 ?_
        refine gg_iload_n X 75 d_M_kind_75 rfl (lv_at hl 1 rfl) ?_
        refine gg_ald_A_own X 76 d_M_kind_76 ?_
        refine gg_if_eq X 77 84 d_M_kind_77 rfl (fun _ => ?_) (fun _ => ?_)
        · refine gg_iconst X 84 (0 : Int32) d_M_kind_84 (by decide) ?_
          exact gg_iret X 85 d_M_kind_85
        · refine gg_iconst X 80 (1 : Int32) d_M_kind_80 (by decide) ?_
          refine gg_goto X 81 85 d_M_kind_81 rfl ?_
          exact gg_iret X 85 d_M_kind_85
      · refine gg_iconst X 62 (4 : Int32) d_M_kind_62 (by decide) ?_
        refine gg_aload_n X 63 d_M_kind_63 rfl (lv_at hl 0 rfl) ?_
        refine gg_get_M_partner X 64 (Or.inl (List.mem_cons_of_mem _ w_361)) d_M_kind_64 ?_
        refine gg_iload_n X 67 d_M_kind_67 rfl (lv_at hl 1 rfl) ?_
        refine gg_ald_A_partner X 68 d_M_kind_68 ?_
        refine gg_iadd X 69 d_M_kind_69 ?_
        exact gg_iret X 70 d_M_kind_70
    · refine gg_aload_n X 7 d_M_kind_7 rfl (lv_at hl 0 rfl) ?_
      refine gg_get_M_stateOf X 8 (Or.inl (List.mem_cons_of_mem _ w_362)) d_M_kind_8 ?_
      refine gg_iload_n X 11 d_M_kind_11 rfl (lv_at hl 2 rfl) ?_
      refine gg_ald_A_stateOf X 12 d_M_kind_12 ?_
      refine gg_if_le X 13 47 d_M_kind_13 rfl (fun _ => ?_) (fun _ => ?_)
      · refine gg_iinc X 47 (k := 2) (1 : Int32) (fun v1 => [(2, .int v1), (0, .ref (ad 0)), (1, .int x1)]) d_M_kind_47 hl rfl (by decide) (by decide) (fun _ => rfl) (fun v1 ls hl => ?_)
        refine gg_goto X 50 2 d_M_kind_50 rfl ?_
        exact ih x1 v1 s _  (lv_sub hl [1, 2, 0] rfl)
      · refine gg_iload_n X 16 d_M_kind_16 rfl (lv_at hl 1 rfl) ?_
        refine gg_aload_n X 17 d_M_kind_17 rfl (lv_at hl 0 rfl) ?_
        refine gg_get_M_from X 18 (Or.inl (List.mem_cons_of_mem _ w_363)) d_M_kind_18 ?_
        refine gg_iload_n X 21 d_M_kind_21 rfl (lv_at hl 2 rfl) ?_
        refine gg_ald_A_from X 22 d_M_kind_22 ?_
        refine gg_icmp_lt X 23 47 d_M_kind_23 rfl (fun _ => ?_) (fun _ => ?_)
        · refine gg_iinc X 47 (k := 2) (1 : Int32) (fun v2 => [(2, .int v2), (0, .ref (ad 0)), (1, .int x1)]) d_M_kind_47 hl rfl (by decide) (by decide) (fun _ => rfl) (fun v2 ls hl => ?_)
          refine gg_goto X 50 2 d_M_kind_50 rfl ?_
          exact ih x1 v2 s _  (lv_sub hl [1, 2, 0] rfl)
        · refine gg_iload_n X 26 d_M_kind_26 rfl (lv_at hl 1 rfl) ?_
          refine gg_aload_n X 27 d_M_kind_27 rfl (lv_at hl 0 rfl) ?_
          refine gg_get_M_from X 28 (Or.inl (List.mem_cons_of_mem _ w_363)) d_M_kind_28 ?_
          refine gg_iload_n X 31 d_M_kind_31 rfl (lv_at hl 2 rfl) ?_
          refine gg_ald_A_from X 32 d_M_kind_32 ?_
          refine gg_aload_n X 33 d_M_kind_33 rfl (lv_at hl 0 rfl) ?_
          refine gg_get_M_size X 34 (Or.inl (List.mem_cons_of_mem _ w_364)) d_M_kind_34 ?_
          refine gg_iload_n X 37 d_M_kind_37 rfl (lv_at hl 2 rfl) ?_
          refine gg_ald_A_size X 38 d_M_kind_38 ?_
          refine gg_iadd X 39 d_M_kind_39 ?_
          refine gg_icmp_ge X 40 47 d_M_kind_40 rfl (fun _ => ?_) (fun _ => ?_)
          · refine gg_iinc X 47 (k := 2) (1 : Int32) (fun v3 => [(2, .int v3), (0, .ref (ad 0)), (1, .int x1)]) d_M_kind_47 hl rfl (by decide) (by decide) (fun _ => rfl) (fun v3 ls hl => ?_)
            refine gg_goto X 50 2 d_M_kind_50 rfl ?_
            exact ih x1 v3 s _  (lv_sub hl [1, 2, 0] rfl)
          · refine gg_iconst X 43 (2 : Int32) d_M_kind_43 (by decide) ?_
            refine gg_iload_n X 44 d_M_kind_44 rfl (lv_at hl 2 rfl) ?_
            refine gg_iadd X 45 d_M_kind_45 ?_
            exact gg_iret X 46 d_M_kind_46
set_option maxHeartbeats 4000000 in
set_option maxRecDepth 100000 in
theorem t_M_kind {p : Program} {l : Launch} {e : Env} {s0 : State} {m : MethodId} {args : Array Value} {below : List Frame} {meth : Method} {c : Code} {D : va_G} {A : Nat → Prop} {dI : Nat → ClassId} {ad : Nat → Nat} (X : CX p s0 m args meth c D vwCl (tyM dI) [] A prog_6_method_3_code 3 (some .int) (Cond.code y_M_kind prog_6_method_3_code 3 (some .int) :: WS) R_M) (a1 : Int32) (s : eS) (ls : Array Slot)  (hl : lv_has ls 3 [(0, .ref (ad 0)), (1, .int a1)]) : GG p l e rm_M_kind s0 m args below meth c D vwCl (tyM dI) A (wM dI ad) 0 0 (QM below args s0 D vwCl (tyM dI) A (wM dI ad) rvI) (f_M_kind a1 s) (F0 m 0 ls []) s := by
  unfold f_M_kind
  refine gg_iconst X 0 (0 : Int32) d_M_kind_0 (by decide) ?_
  refine gg_istore_n X 1 (fun v1 => [(2, .int v1), (0, .ref (ad 0)), (1, .int a1)]) d_M_kind_1 rfl hl (by decide) (fun _ => rfl) (fun v1 ls hl => ?_)
  exact t_M_kind_2 X fu a1 v1 s _  (lv_sub hl [1, 2, 0] rfl)
theorem M_M_kind (l : Launch) (D : va_G) (dI : Nat → ClassId) (ad : Nat → Nat) (s : eS) (a1 : Int32)  {r : Int32} {s' : eS} (h : f_M_kind a1 s = some (r, s')) (sz : Nat) : Met l y_M_kind (Cond.code y_M_kind prog_6_method_3_code 3 (some .int) :: WS) rm_M_kind (Px (wM dI ad) D vwCl (tyM dI) [] sz s [.ref (ad 0), .int a1]) (Qx rvI (wM dI ad) D vwCl (tyM dI) (va_A ((wM dI ad) s) sz) r s') 0 0 (va_A ((wM dI ad) s) sz) :=
  met_of [.ref (ad 0), .int a1] (by decide) rfl rfl (Nat.le_of_ble_eq_true rfl) h (fun p e s0 m args below meth c A ls X hl => t_M_kind X a1 s ls  hl)
set_option maxHeartbeats 4000000 in
set_option maxRecDepth 100000 in
theorem t_M_uses_63 {p : Program} {l : Launch} {e : Env} {s0 : State} {m : MethodId} {args : Array Value} {below : List Frame} {meth : Method} {c : Code} {D : va_G} {A : Nat → Prop} {dI : Nat → ClassId} {ad : Nat → Nat} (X : CX p s0 m args meth c D vwCl (tyM dI) [] A prog_6_method_4_code 4 (some .boolean) (Cond.code y_M_uses prog_6_method_4_code 4 (some .boolean) :: WS) R_M)  (s : eS) (ls : Array Slot)  (hl : lv_has ls 4 []) : GG p l e rm_M_uses s0 m args below meth c D vwCl (tyM dI) A (wM dI ad) 0 0 (QM below args s0 D vwCl (tyM dI) A (wM dI ad) rvI) (f_M_uses_63 s) (F0 m 63 ls []) s := by
  unfold f_M_uses_63
  refine gg_iconst X 63 (1 : Int32) d_M_uses_63 (by decide) ?_
  refine gg_goto X 64 68 d_M_uses_64 rfl ?_
  exact gg_zretk X 68 rfl d_M_uses_68
set_option maxHeartbeats 4000000 in
set_option maxRecDepth 100000 in
theorem t_M_uses_37 {p : Program} {l : Launch} {e : Env} {s0 : State} {m : MethodId} {args : Array Value} {below : List Frame} {meth : Method} {c : Code} {D : va_G} {A : Nat → Prop} {dI : Nat → ClassId} {ad : Nat → Nat} (X : CX p s0 m args meth c D vwCl (tyM dI) [] A prog_6_method_4_code 4 (some .boolean) (Cond.code y_M_uses prog_6_method_4_code 4 (some .boolean) :: WS) R_M)  (s : eS) (ls : Array Slot)  (hl : lv_has ls 4 []) : GG p l e rm_M_uses s0 m args below meth c D vwCl (tyM dI) A (wM dI ad) 0 0 (QM below args s0 D vwCl (tyM dI) A (wM dI ad) rvI) (f_M_uses_37 s) (F0 m 37 ls []) s := by
  unfold f_M_uses_37
  refine gg_iconst X 37 (1 : Int32) d_M_uses_37 (by decide) ?_
  refine gg_goto X 38 68 d_M_uses_38 rfl ?_
  exact gg_zretk X 68 rfl d_M_uses_68
set_option maxHeartbeats 4000000 in
set_option maxRecDepth 100000 in
theorem t_M_uses {p : Program} {l : Launch} {e : Env} {s0 : State} {m : MethodId} {args : Array Value} {below : List Frame} {meth : Method} {c : Code} {D : va_G} {A : Nat → Prop} {dI : Nat → ClassId} {ad : Nat → Nat} (X : CX p s0 m args meth c D vwCl (tyM dI) [] A prog_6_method_4_code 4 (some .boolean) (Cond.code y_M_uses prog_6_method_4_code 4 (some .boolean) :: WS) R_M) (a1 : Int32) (a2 : Int32) (s : eS) (ls : Array Slot)  (hl : lv_has ls 4 [(0, .ref (ad 0)), (1, .int a1), (2, .int a2)]) : GG p l e rm_M_uses s0 m args below meth c D vwCl (tyM dI) A (wM dI ad) 0 0 (QM below args s0 D vwCl (tyM dI) A (wM dI ad) rvI) (f_M_uses a1 a2 s) (F0 m 0 ls []) s := by
  unfold f_M_uses
  refine gg_iload_n X 0 d_M_uses_0 rfl (lv_at hl 2 rfl) ?_
  refine gg_sipush X 1 (255 : Int32) d_M_uses_1 (by decide) ?_
  refine gg_callS X 4 nwOk_M [.int a2, .int (255 : Int32)] [] (fun _ _ h sz => M_M_outside l D dI ad _ a2 (255 : Int32)  h sz) (cwS 2 X.1.2.2.2.2 (gwS w_437 w_438 w_5 w_439) rfl rfl rfl (by decide +kernel) ⟨by decide, by decide⟩) rfl hl.1 rfl (Nat.le_of_ble_eq_true rfl) ⟨Nat.zero_le _, Nat.zero_le _⟩ d_M_uses_4 (fun r1 s2 ho3 => ?_)
  refine gg_show_i ?_
  refine gg_if_eq X 7 12 d_M_uses_7 rfl (fun _ => ?_) (fun _ => ?_)
  · refine gg_aload_n X 12 d_M_uses_12 rfl (lv_at hl 0 rfl) ?_
    refine gg_iload_n X 13 d_M_uses_13 rfl (lv_at hl 2 rfl) ?_
    refine gg_bipush X 14 (16 : Int32) d_M_uses_14 (by decide) ?_
    refine gg_idivk X 16 d_M_uses_16 (by decide) ?_
    refine gg_callV X 17 nwOk_M [.int (a2 / (16 : Int32))] [] (fun _ _ h sz => M_M_kind l D dI ad _ (a2 / (16 : Int32))  h sz) (cwV 1 X.1.2.2.2.2 (gwV w_440 w_442 ws_M_kind w_5 w_443) rfl rfl rfl (by decide +kernel) ⟨by decide, by decide⟩) (he_M_Main) rfl rfl hl.1 rfl (Nat.le_of_ble_eq_true rfl) ⟨Nat.zero_le _, Nat.zero_le _⟩ d_M_uses_17 (fun r4 s5 ho6 => ?_)
    refine gg_show_i ?_
    refine gg_istore_n X 20 (fun v7 => [(3, .int v7), (0, .ref (ad 0)), (1, .int a1), (2, .int a2)]) d_M_uses_20 rfl hl (by decide) (fun _ => rfl) (fun v7 ls hl => ?_)
    refine gg_iload_n X 21 d_M_uses_21 rfl (lv_at hl 2 rfl) ?_
    refine gg_bipush X 22 (6 : Int32) d_M_uses_22 (by decide) ?_
    refine gg_icmp_ne X 24 45 d_M_uses_24 rfl (fun _ => ?_) (fun _ => ?_)
    · refine gg_iload_n X 45 d_M_uses_45 rfl (lv_at hl 0 rfl) ?_
      refine gg_iconst X 46 (2 : Int32) d_M_uses_46 (by decide) ?_
      refine gg_iload_n X 47 d_M_uses_47 rfl (lv_at hl 2 rfl) ?_
      refine gg_iconst X 48 (2 : Int32) d_M_uses_48 (by decide) ?_
      refine gg_idivk X 49 d_M_uses_49 (by decide) ?_
      refine gg_iadd X 50 d_M_uses_50 ?_
      refine gg_icmp_eq X 51 63 d_M_uses_51 rfl (fun _ => ?_) (fun _ => ?_)
      · exact t_M_uses_63 X s5 _  (lv_sub hl [] rfl)
      · refine gg_iload_n X 54 d_M_uses_54 rfl (lv_at hl 0 rfl) ?_
        refine gg_iconst X 55 (5 : Int32) d_M_uses_55 (by decide) ?_
        refine gg_iload_n X 56 d_M_uses_56 rfl (lv_at hl 2 rfl) ?_
        refine gg_iconst X 57 (2 : Int32) d_M_uses_57 (by decide) ?_
        refine gg_idivk X 58 d_M_uses_58 (by decide) ?_
        refine gg_iadd X 59 d_M_uses_59 ?_
        refine gg_icmp_ne X 60 67 d_M_uses_60 rfl (fun _ => ?_) (fun _ => ?_)
        · refine gg_iconst X 67 (0 : Int32) d_M_uses_67 (by decide) ?_
          exact gg_zretk X 68 rfl d_M_uses_68
        · exact t_M_uses_63 X s5 _  (lv_sub hl [] rfl)
    · refine gg_iload_n X 27 d_M_uses_27 rfl (lv_at hl 0 rfl) ?_
      refine gg_iconst X 28 (1 : Int32) d_M_uses_28 (by decide) ?_
      refine gg_icmp_eq X 29 37 d_M_uses_29 rfl (fun _ => ?_) (fun _ => ?_)
      · exact t_M_uses_37 X s5 _  (lv_sub hl [] rfl)
      · refine gg_iload_n X 32 d_M_uses_32 rfl (lv_at hl 0 rfl) ?_
        refine gg_iconst X 33 (5 : Int32) d_M_uses_33 (by decide) ?_
        refine gg_icmp_lt X 34 41 d_M_uses_34 rfl (fun _ => ?_) (fun _ => ?_)
        · refine gg_iconst X 41 (0 : Int32) d_M_uses_41 (by decide) ?_
          refine gg_goto X 42 68 d_M_uses_42 rfl ?_
          exact gg_zretk X 68 rfl d_M_uses_68
        · exact t_M_uses_37 X s5 _  (lv_sub hl [] rfl)
  · refine gg_iconst X 10 (0 : Int32) d_M_uses_10 (by decide) ?_
    exact gg_zretk X 11 rfl d_M_uses_11
theorem M_M_uses (l : Launch) (D : va_G) (dI : Nat → ClassId) (ad : Nat → Nat) (s : eS) (a1 : Int32) (a2 : Int32)  {r : Int32} {s' : eS} (h : f_M_uses a1 a2 s = some (r, s')) (sz : Nat) : Met l y_M_uses (Cond.code y_M_uses prog_6_method_4_code 4 (some .boolean) :: WS) rm_M_uses (Px (wM dI ad) D vwCl (tyM dI) [] sz s [.ref (ad 0), .int a1, .int a2]) (Qx rvI (wM dI ad) D vwCl (tyM dI) (va_A ((wM dI ad) s) sz) r s') 0 0 (va_A ((wM dI ad) s) sz) :=
  met_of [.ref (ad 0), .int a1, .int a2] (by decide) rfl rfl (Nat.le_of_ble_eq_true rfl) h (fun p e s0 m args below meth c A ls X hl => t_M_uses X a1 a2 s ls  hl)
set_option maxHeartbeats 4000000 in
set_option maxRecDepth 100000 in
theorem t_M_mix {p : Program} {l : Launch} {e : Env} {s0 : State} {m : MethodId} {args : Array Value} {below : List Frame} {meth : Method} {c : Code} {D : va_G} {A : Nat → Prop} {dI : Nat → ClassId} {ad : Nat → Nat} (X : CX p s0 m args meth c D vwCl (tyM dI) [] A prog_6_method_5_code 3 (some .int) (Cond.code y_M_mix prog_6_method_5_code 3 (some .int) :: WS) R_M) (a0 : Int32) (a1 : Int32) (s : eS) (ls : Array Slot)  (hl : lv_has ls 3 [(0, .int a0), (1, .int a1)]) : GG p l e rm_M_mix s0 m args below meth c D vwCl (tyM dI) A (wM dI ad) 0 0 (QM below args s0 D vwCl (tyM dI) A (wM dI ad) rvI) (f_M_mix a0 a1 s) (F0 m 0 ls []) s := by
  unfold f_M_mix
  refine gg_iload_n X 0 d_M_mix_0 rfl (lv_at hl 0 rfl) ?_
  refine gg_iload_n X 1 d_M_mix_1 rfl (lv_at hl 1 rfl) ?_
  refine gg_ixor X 2 d_M_mix_2 ?_
  refine gg_ldc X 3 (1390208809 : Int32) (List.mem_cons_of_mem _ w_562) d_M_mix_3 ?_
  refine gg_imul X 5 d_M_mix_5 ?_
  refine gg_istore_n X 6 (fun v1 => [(2, .int v1), (0, .int a0), (1, .int a1)]) d_M_mix_6 rfl hl (by decide) (fun _ => rfl) (fun v1 ls hl => ?_)
  refine gg_iload_n X 7 d_M_mix_7 rfl (lv_at hl 0 rfl) ?_
  refine gg_iload_n X 8 d_M_mix_8 rfl (lv_at hl 0 rfl) ?_
  refine gg_bipush X 9 (15 : Int32) d_M_mix_9 (by decide) ?_
  refine gg_iushr X 11 d_M_mix_11 ?_
  refine gg_ixor X 12 d_M_mix_12 ?_
  exact gg_iret X 13 d_M_mix_13
theorem M_M_mix (l : Launch) (D : va_G) (dI : Nat → ClassId) (ad : Nat → Nat) (s : eS) (a0 : Int32) (a1 : Int32)  {r : Int32} {s' : eS} (h : f_M_mix a0 a1 s = some (r, s')) (sz : Nat) : Met l y_M_mix (Cond.code y_M_mix prog_6_method_5_code 3 (some .int) :: WS) rm_M_mix (Px (wM dI ad) D vwCl (tyM dI) [] sz s [.int a0, .int a1]) (Qx rvI (wM dI ad) D vwCl (tyM dI) (va_A ((wM dI ad) s) sz) r s') 0 0 (va_A ((wM dI ad) s) sz) :=
  met_of [.int a0, .int a1] (by decide) rfl rfl (Nat.le_of_ble_eq_true rfl) h (fun p e s0 m args below meth c A ls X hl => t_M_mix X a0 a1 s ls  hl)
set_option maxHeartbeats 4000000 in
set_option maxRecDepth 100000 in
theorem t_M_mac {p : Program} {l : Launch} {e : Env} {s0 : State} {m : MethodId} {args : Array Value} {below : List Frame} {meth : Method} {c : Code} {D : va_G} {A : Nat → Prop} {dI : Nat → ClassId} {ad : Nat → Nat} (X : CX p s0 m args meth c D vwCl (tyM dI) [] A prog_6_method_6_code 4 (some .int) (Cond.code y_M_mac prog_6_method_6_code 4 (some .int) :: WS) R_M) (a1 : Int32) (a2 : Int32) (s : eS) (ls : Array Slot)  (hl : lv_has ls 4 [(0, .ref (ad 0)), (1, .int a1), (2, .int a2)]) : GG p l e rm_M_mac s0 m args below meth c D vwCl (tyM dI) A (wM dI ad) 0 0 (QM below args s0 D vwCl (tyM dI) A (wM dI ad) rvI) (f_M_mac a1 a2 s) (F0 m 0 ls []) s := by
  unfold f_M_mac
  refine gg_aload_n X 0 d_M_mac_0 rfl (lv_at hl 0 rfl) ?_
  refine gg_get_M_secret X 1 (Or.inl (List.mem_cons_of_mem _ w_358)) d_M_mac_1 ?_
  refine gg_iload_n X 4 d_M_mac_4 rfl (lv_at hl 1 rfl) ?_
  refine gg_callS X 5 nwOk_M [.int (s 13 0), .int a1] [] (fun _ _ h sz => M_M_mix l D dI ad _ (s 13 0) a1  h sz) (cwS 2 X.1.2.2.2.2 (gwS w_559 w_560 w_5 w_561) rfl rfl rfl (by decide +kernel) ⟨by decide, by decide⟩) rfl hl.1 rfl (Nat.le_of_ble_eq_true rfl) ⟨Nat.zero_le _, Nat.zero_le _⟩ d_M_mac_5 (fun r1 s2 ho3 => ?_)
  refine gg_show_i ?_
  refine gg_istore_n X 8 (fun v4 => [(3, .int v4), (0, .ref (ad 0)), (1, .int a1), (2, .int a2)]) d_M_mac_8 rfl hl (by decide) (fun _ => rfl) (fun v4 ls hl => ?_)
  refine gg_iload_n X 9 d_M_mac_9 rfl (lv_at hl 0 rfl) ?_
  refine gg_iload_n X 10 d_M_mac_10 rfl (lv_at hl 3 rfl) ?_
  refine gg_callS X 11 nwOk_M [.int v4, .int a2] [] (fun _ _ h sz => M_M_mix l D dI ad _ v4 a2  h sz) (cwS 2 X.1.2.2.2.2 (gwS w_559 w_560 w_5 w_561) rfl rfl rfl (by decide +kernel) ⟨by decide, by decide⟩) rfl hl.1 rfl (Nat.le_of_ble_eq_true rfl) ⟨Nat.zero_le _, Nat.zero_le _⟩ d_M_mac_11 (fun r5 s6 ho7 => ?_)
  refine gg_show_i ?_
  refine gg_istore_n X 14 (fun v8 => [(3, .int v8), (0, .ref (ad 0)), (1, .int a1), (2, .int a2)]) d_M_mac_14 rfl hl (by decide) (fun _ => rfl) (fun v8 ls hl => ?_)
  refine gg_iload_n X 15 d_M_mac_15 rfl (lv_at hl 0 rfl) ?_
  refine gg_aload_n X 16 d_M_mac_16 rfl (lv_at hl 1 rfl) ?_
  refine gg_get_M_secret X 17 (Or.inl (List.mem_cons_of_mem _ w_358)) d_M_mac_17 ?_
  refine gg_callS X 20 nwOk_M [.int v8, .int (s6 13 0)] [] (fun _ _ h sz => M_M_mix l D dI ad _ v8 (s6 13 0)  h sz) (cwS 2 X.1.2.2.2.2 (gwS w_559 w_560 w_5 w_561) rfl rfl rfl (by decide +kernel) ⟨by decide, by decide⟩) rfl hl.1 rfl (Nat.le_of_ble_eq_true rfl) ⟨Nat.zero_le _, Nat.zero_le _⟩ d_M_mac_20 (fun r9 s10 ho11 => ?_)
  refine gg_show_i ?_
  exact gg_iret X 23 d_M_mac_23
theorem M_M_mac (l : Launch) (D : va_G) (dI : Nat → ClassId) (ad : Nat → Nat) (s : eS) (a1 : Int32) (a2 : Int32)  {r : Int32} {s' : eS} (h : f_M_mac a1 a2 s = some (r, s')) (sz : Nat) : Met l y_M_mac (Cond.code y_M_mac prog_6_method_6_code 4 (some .int) :: WS) rm_M_mac (Px (wM dI ad) D vwCl (tyM dI) [] sz s [.ref (ad 0), .int a1, .int a2]) (Qx rvI (wM dI ad) D vwCl (tyM dI) (va_A ((wM dI ad) s) sz) r s') 0 0 (va_A ((wM dI ad) s) sz) :=
  met_of [.ref (ad 0), .int a1, .int a2] (by decide) rfl rfl (Nat.le_of_ble_eq_true rfl) h (fun p e s0 m args below meth c A ls X hl => t_M_mac X a1 a2 s ls  hl)
set_option maxHeartbeats 4000000 in
set_option maxRecDepth 100000 in
theorem t_M_add {p : Program} {l : Launch} {e : Env} {s0 : State} {m : MethodId} {args : Array Value} {below : List Frame} {meth : Method} {c : Code} {D : va_G} {A : Nat → Prop} {dI : Nat → ClassId} {ad : Nat → Nat} (X : CX p s0 m args meth c D vwCl (tyM dI) [] A prog_6_method_7_code 3 none (Cond.code y_M_add prog_6_method_7_code 3 none :: WS) R_M) (a1 : Int32) (a2 : Int32) (s : eS) (ls : Array Slot)  (hl : lv_has ls 3 [(0, .ref (ad 0)), (1, .int a1), (2, .int a2)]) : GG p l e rm_M_add s0 m args below meth c D vwCl (tyM dI) A (wM dI ad) 0 0 (QM below args s0 D vwCl (tyM dI) A (wM dI ad) rvV) (f_M_add a1 a2 s) (F0 m 0 ls []) s := by
  unfold f_M_add
  refine gg_aload_n X 0 d_M_add_0 rfl (lv_at hl 0 rfl) ?_
  refine gg_get_M_added X 1 (Or.inl (List.mem_cons_of_mem _ w_366)) d_M_add_1 ?_
  refine gg_sipush X 4 (160 : Int32) d_M_add_4 (by decide) ?_
  refine gg_iload_n X 7 d_M_add_7 rfl (lv_at hl 1 rfl) ?_
  refine gg_imul X 8 d_M_add_8 ?_
  refine gg_aload_n X 9 d_M_add_9 rfl (lv_at hl 0 rfl) ?_
  refine gg_get_M_count X 10 (Or.inl (List.mem_cons_of_mem _ w_367)) d_M_add_10 ?_
  refine gg_iload_n X 13 d_M_add_13 rfl (lv_at hl 1 rfl) ?_
  refine gg_ald_A_count X 14 d_M_add_14 ?_
  refine gg_iadd X 15 d_M_add_15 ?_
  refine gg_iload_n X 16 d_M_add_16 rfl (lv_at hl 2 rfl) ?_
  refine gg_ast_A_added X 17 d_M_add_17 (fun s1 => ?_)
  refine gg_aload_n X 18 d_M_add_18 rfl (lv_at hl 0 rfl) ?_
  refine gg_get_M_count X 19 (Or.inl (List.mem_cons_of_mem _ w_367)) d_M_add_19 ?_
  refine gg_iload_n X 22 d_M_add_22 rfl (lv_at hl 1 rfl) ?_
  refine gg_dup2 X 23 d_M_add_23 rfl rfl ?_
  refine gg_ald_A_count X 24 d_M_add_24 ?_
  refine gg_iconst X 25 (1 : Int32) d_M_add_25 (by decide) ?_
  refine gg_iadd X 26 d_M_add_26 ?_
  refine gg_ast_A_count X 27 d_M_add_27 (fun s2 => ?_)
  exact gg_vret X 28 d_M_add_28
theorem M_M_add (l : Launch) (D : va_G) (dI : Nat → ClassId) (ad : Nat → Nat) (s : eS) (a1 : Int32) (a2 : Int32)  {r : Unit} {s' : eS} (h : f_M_add a1 a2 s = some (r, s')) (sz : Nat) : Met l y_M_add (Cond.code y_M_add prog_6_method_7_code 3 none :: WS) rm_M_add (Px (wM dI ad) D vwCl (tyM dI) [] sz s [.ref (ad 0), .int a1, .int a2]) (Qx rvV (wM dI ad) D vwCl (tyM dI) (va_A ((wM dI ad) s) sz) r s') 0 0 (va_A ((wM dI ad) s) sz) :=
  met_of [.ref (ad 0), .int a1, .int a2] (by decide) rfl rfl (Nat.le_of_ble_eq_true rfl) h (fun p e s0 m args below meth c A ls X hl => t_M_add X a1 a2 s ls  hl)
set_option maxHeartbeats 4000000 in
set_option maxRecDepth 100000 in
theorem t_M_measured_4 {p : Program} {l : Launch} {e : Env} {s0 : State} {m : MethodId} {args : Array Value} {below : List Frame} {meth : Method} {c : Code} {D : va_G} {A : Nat → Prop} {dI : Nat → ClassId} {ad : Nat → Nat} (X : CX p s0 m args meth c D vwCl (tyM dI) [] A prog_6_method_8_code 4 (some .int) (Cond.code y_M_measured prog_6_method_8_code 4 (some .int) :: WS) R_M) : ∀ (fl : Nat) (x1 : Int32) (x2 : Int32) (x3 : Int32) (s : eS) (ls : Array Slot), lv_has ls 4 [(0, .ref (ad 0)), (1, .int x1), (2, .int x2), (3, .int x3)] → GG p l e rm_M_measured s0 m args below meth c D vwCl (tyM dI) A (wM dI ad) 0 0 (QM below args s0 D vwCl (tyM dI) A (wM dI ad) rvI) (f_M_measured_4 fl x1 x2 x3 s) (F0 m 4 ls []) s := by
  intro fl
  induction fl with
  | zero =>
    intro x1 x2 x3 s ls hl
    rw [f_M_measured_4]
    exact gg_none
  | succ fl ih =>
    intro x1 x2 x3 s ls hl
    rw [f_M_measured_4]
    refine gg_iload_n X 4 d_M_measured_4 rfl (lv_at hl 3 rfl) ?_
    refine gg_aload_n X 5 d_M_measured_5 rfl (lv_at hl 0 rfl) ?_
    refine gg_get_M_count X 6 (Or.inl (List.mem_cons_of_mem _ w_367)) d_M_measured_6 ?_
    refine gg_iload_n X 9 d_M_measured_9 rfl (lv_at hl 1 rfl) ?_
    refine gg_ald_A_count X 10 d_M_measured_10 ?_
    refine gg_icmp_ge X 11 37 d_M_measured_11 rfl (fun _ => ?_) (fun _ => ?_)
    · refine gg_iload_n X 37 d_M_measured_37 rfl (lv_at hl 2 rfl) ?_
      exact gg_iret X 38 d_M_measured_38
    · refine gg_iload_n X 14 d_M_measured_14 rfl (lv_at hl 2 rfl) ?_
      refine gg_aload_n X 15 d_M_measured_15 rfl (lv_at hl 0 rfl) ?_
      refine gg_get_M_added X 16 (Or.inl (List.mem_cons_of_mem _ w_366)) d_M_measured_16 ?_
      refine gg_sipush X 19 (160 : Int32) d_M_measured_19 (by decide) ?_
      refine gg_iload_n X 22 d_M_measured_22 rfl (lv_at hl 1 rfl) ?_
      refine gg_imul X 23 d_M_measured_23 ?_
      refine gg_iload_n X 24 d_M_measured_24 rfl (lv_at hl 3 rfl) ?_
      refine gg_iadd X 25 d_M_measured_25 ?_
      refine gg_ald_A_added X 26 d_M_measured_26 ?_
      refine gg_callS X 27 nwOk_M [.int x2, .int (s 7 (Int32.toNatClampNeg (((160 : Int32) * x1) + x3)))] [] (fun _ _ h sz => M_M_mix l D dI ad _ x2 (s 7 (Int32.toNatClampNeg (((160 : Int32) * x1) + x3)))  h sz) (cwS 2 X.1.2.2.2.2 (gwS w_559 w_560 w_5 w_561) rfl rfl rfl (by decide +kernel) ⟨by decide, by decide⟩) rfl hl.1 rfl (Nat.le_of_ble_eq_true rfl) ⟨Nat.zero_le _, Nat.zero_le _⟩ d_M_measured_27 (fun r1 s2 ho3 => ?_)
      refine gg_show_i ?_
      refine gg_istore_n X 30 (fun v4 => [(2, .int v4), (0, .ref (ad 0)), (1, .int x1), (3, .int x3)]) d_M_measured_30 rfl hl (by decide) (fun _ => rfl) (fun v4 ls hl => ?_)
      refine gg_iinc X 31 (k := 3) (1 : Int32) (fun v5 => [(3, .int v5), (2, .int v4), (0, .ref (ad 0)), (1, .int x1)]) d_M_measured_31 hl rfl (by decide) (by decide) (fun _ => rfl) (fun v5 ls hl => ?_)
      refine gg_goto X 34 4 d_M_measured_34 rfl ?_
      exact ih x1 v4 v5 s2 _  (lv_sub hl [2, 3, 1, 0] rfl)
set_option maxHeartbeats 4000000 in
set_option maxRecDepth 100000 in
theorem t_M_measured {p : Program} {l : Launch} {e : Env} {s0 : State} {m : MethodId} {args : Array Value} {below : List Frame} {meth : Method} {c : Code} {D : va_G} {A : Nat → Prop} {dI : Nat → ClassId} {ad : Nat → Nat} (X : CX p s0 m args meth c D vwCl (tyM dI) [] A prog_6_method_8_code 4 (some .int) (Cond.code y_M_measured prog_6_method_8_code 4 (some .int) :: WS) R_M) (a1 : Int32) (s : eS) (ls : Array Slot)  (hl : lv_has ls 4 [(0, .ref (ad 0)), (1, .int a1)]) : GG p l e rm_M_measured s0 m args below meth c D vwCl (tyM dI) A (wM dI ad) 0 0 (QM below args s0 D vwCl (tyM dI) A (wM dI ad) rvI) (f_M_measured a1 s) (F0 m 0 ls []) s := by
  unfold f_M_measured
  refine gg_iconst X 0 (0 : Int32) d_M_measured_0 (by decide) ?_
  refine gg_istore_n X 1 (fun v1 => [(2, .int v1), (0, .ref (ad 0)), (1, .int a1)]) d_M_measured_1 rfl hl (by decide) (fun _ => rfl) (fun v1 ls hl => ?_)
  refine gg_iconst X 2 (0 : Int32) d_M_measured_2 (by decide) ?_
  refine gg_istore_n X 3 (fun v2 => [(3, .int v2), (2, .int v1), (0, .ref (ad 0)), (1, .int a1)]) d_M_measured_3 rfl hl (by decide) (fun _ => rfl) (fun v2 ls hl => ?_)
  exact t_M_measured_4 X fu a1 v1 v2 s _  (lv_sub hl [2, 3, 1, 0] rfl)
theorem M_M_measured (l : Launch) (D : va_G) (dI : Nat → ClassId) (ad : Nat → Nat) (s : eS) (a1 : Int32)  {r : Int32} {s' : eS} (h : f_M_measured a1 s = some (r, s')) (sz : Nat) : Met l y_M_measured (Cond.code y_M_measured prog_6_method_8_code 4 (some .int) :: WS) rm_M_measured (Px (wM dI ad) D vwCl (tyM dI) [] sz s [.ref (ad 0), .int a1]) (Qx rvI (wM dI ad) D vwCl (tyM dI) (va_A ((wM dI ad) s) sz) r s') 0 0 (va_A ((wM dI ad) s) sz) :=
  met_of [.ref (ad 0), .int a1] (by decide) rfl rfl (Nat.le_of_ble_eq_true rfl) h (fun p e s0 m args below meth c A ls X hl => t_M_measured X a1 s ls  hl)
set_option maxHeartbeats 4000000 in
set_option maxRecDepth 100000 in
theorem t_M_bad_146 {p : Program} {l : Launch} {e : Env} {s0 : State} {m : MethodId} {args : Array Value} {below : List Frame} {meth : Method} {c : Code} {D : va_G} {A : Nat → Prop} {dI : Nat → ClassId} {ad : Nat → Nat} (X : CX p s0 m args meth c D vwCl (tyM dI) [] A prog_6_method_9_code 4 (some .boolean) (Cond.code y_M_bad prog_6_method_9_code 4 (some .boolean) :: WS) R_M)  (s : eS) (ls : Array Slot)  (hl : lv_has ls 4 []) : GG p l e rm_M_bad s0 m args below meth c D vwCl (tyM dI) A (wM dI ad) 0 0 (QM below args s0 D vwCl (tyM dI) A (wM dI ad) rvI) (f_M_bad_146 s) (F0 m 146 ls []) s := by
  unfold f_M_bad_146
  refine gg_iconst X 146 (0 : Int32) d_M_bad_146 (by decide) ?_
  exact gg_zretk X 147 rfl d_M_bad_147
set_option maxHeartbeats 4000000 in
set_option maxRecDepth 100000 in
theorem t_M_bad_142 {p : Program} {l : Launch} {e : Env} {s0 : State} {m : MethodId} {args : Array Value} {below : List Frame} {meth : Method} {c : Code} {D : va_G} {A : Nat → Prop} {dI : Nat → ClassId} {ad : Nat → Nat} (X : CX p s0 m args meth c D vwCl (tyM dI) [] A prog_6_method_9_code 4 (some .boolean) (Cond.code y_M_bad prog_6_method_9_code 4 (some .boolean) :: WS) R_M)  (s : eS) (ls : Array Slot)  (hl : lv_has ls 4 []) : GG p l e rm_M_bad s0 m args below meth c D vwCl (tyM dI) A (wM dI ad) 0 0 (QM below args s0 D vwCl (tyM dI) A (wM dI ad) rvI) (f_M_bad_142 s) (F0 m 142 ls []) s := by
  unfold f_M_bad_142
  refine gg_iconst X 142 (1 : Int32) d_M_bad_142 (by decide) ?_
  refine gg_goto X 143 147 d_M_bad_143 rfl ?_
  exact gg_zretk X 147 rfl d_M_bad_147
set_option maxHeartbeats 4000000 in
set_option maxRecDepth 100000 in
theorem t_M_bad_134 {p : Program} {l : Launch} {e : Env} {s0 : State} {m : MethodId} {args : Array Value} {below : List Frame} {meth : Method} {c : Code} {D : va_G} {A : Nat → Prop} {dI : Nat → ClassId} {ad : Nat → Nat} (X : CX p s0 m args meth c D vwCl (tyM dI) [] A prog_6_method_9_code 4 (some .boolean) (Cond.code y_M_bad prog_6_method_9_code 4 (some .boolean) :: WS) R_M) (x2 : Int32) (s : eS) (ls : Array Slot)  (hl : lv_has ls 4 [(2, .int x2)]) : GG p l e rm_M_bad s0 m args below meth c D vwCl (tyM dI) A (wM dI ad) 0 0 (QM below args s0 D vwCl (tyM dI) A (wM dI ad) rvI) (f_M_bad_134 x2 s) (F0 m 134 ls []) s := by
  unfold f_M_bad_134
  refine gg_iload_n X 134 d_M_bad_134 rfl (lv_at hl 0 rfl) ?_
  refine gg_iconst X 135 (1 : Int32) d_M_bad_135 (by decide) ?_
  refine gg_callS X 136 nwOk_M [.int x2, .int (1 : Int32)] [] (fun _ _ h sz => M_M_outside l D dI ad _ x2 (1 : Int32)  h sz) (cwS 2 X.1.2.2.2.2 (gwS w_437 w_438 w_5 w_439) rfl rfl rfl (by decide +kernel) ⟨by decide, by decide⟩) rfl hl.1 rfl (Nat.le_of_ble_eq_true rfl) ⟨Nat.zero_le _, Nat.zero_le _⟩ d_M_bad_136 (fun r1 s2 ho3 => ?_)
  refine gg_show_i ?_
  refine gg_if_eq X 139 146 d_M_bad_139 rfl (fun _ => ?_) (fun _ => ?_)
  · exact t_M_bad_146 X s2 _  (lv_sub hl [] rfl)
  · exact t_M_bad_142 X s2 _  (lv_sub hl [] rfl)
set_option maxHeartbeats 4000000 in
set_option maxRecDepth 100000 in
theorem t_M_bad_122 {p : Program} {l : Launch} {e : Env} {s0 : State} {m : MethodId} {args : Array Value} {below : List Frame} {meth : Method} {c : Code} {D : va_G} {A : Nat → Prop} {dI : Nat → ClassId} {ad : Nat → Nat} (X : CX p s0 m args meth c D vwCl (tyM dI) [] A prog_6_method_9_code 4 (some .boolean) (Cond.code y_M_bad prog_6_method_9_code 4 (some .boolean) :: WS) R_M) (x0 : Int32) (x2 : Int32) (s : eS) (ls : Array Slot)  (hl : lv_has ls 4 [(0, .int x0), (2, .int x2)]) : GG p l e rm_M_bad s0 m args below meth c D vwCl (tyM dI) A (wM dI ad) 0 0 (QM below args s0 D vwCl (tyM dI) A (wM dI ad) rvI) (f_M_bad_122 x0 x2 s) (F0 m 122 ls []) s := by
  unfold f_M_bad_122
  refine gg_iload_n X 122 d_M_bad_122 rfl (lv_at hl 0 rfl) ?_
  refine gg_bipush X 123 (6 : Int32) d_M_bad_123 (by decide) ?_
  refine gg_icmp_eq X 125 134 d_M_bad_125 rfl (fun _ => ?_) (fun _ => ?_)
  · exact t_M_bad_134 X x2 s _  (lv_sub hl [1] rfl)
  · refine gg_iload_n X 128 d_M_bad_128 rfl (lv_at hl 0 rfl) ?_
    refine gg_bipush X 129 (7 : Int32) d_M_bad_129 (by decide) ?_
    refine gg_icmp_ne X 131 146 d_M_bad_131 rfl (fun _ => ?_) (fun _ => ?_)
    · exact t_M_bad_146 X s _  (lv_sub hl [] rfl)
    · exact t_M_bad_134 X x2 s _  (lv_sub hl [1] rfl)
set_option maxHeartbeats 4000000 in
set_option maxRecDepth 100000 in
theorem t_M_bad_108 {p : Program} {l : Launch} {e : Env} {s0 : State} {m : MethodId} {args : Array Value} {below : List Frame} {meth : Method} {c : Code} {D : va_G} {A : Nat → Prop} {dI : Nat → ClassId} {ad : Nat → Nat} (X : CX p s0 m args meth c D vwCl (tyM dI) [] A prog_6_method_9_code 4 (some .boolean) (Cond.code y_M_bad prog_6_method_9_code 4 (some .boolean) :: WS) R_M) (x0 : Int32) (x2 : Int32) (s : eS) (ls : Array Slot)  (hl : lv_has ls 4 [(0, .int x0), (2, .int x2)]) : GG p l e rm_M_bad s0 m args below meth c D vwCl (tyM dI) A (wM dI ad) 0 0 (QM below args s0 D vwCl (tyM dI) A (wM dI ad) rvI) (f_M_bad_108 x0 x2 s) (F0 m 108 ls []) s := by
  unfold f_M_bad_108
  refine gg_iload_n X 108 d_M_bad_108 rfl (lv_at hl 0 rfl) ?_
  refine gg_iconst X 109 (5 : Int32) d_M_bad_109 (by decide) ?_
  refine gg_icmp_ne X 110 122 d_M_bad_110 rfl (fun _ => ?_) (fun _ => ?_)
  · exact t_M_bad_122 X x0 x2 s _  (lv_sub hl [0, 1] rfl)
  · refine gg_iload_n X 113 d_M_bad_113 rfl (lv_at hl 1 rfl) ?_
    refine gg_bipush X 114 (15 : Int32) d_M_bad_114 (by decide) ?_
    refine gg_callS X 116 nwOk_M [.int x2, .int (15 : Int32)] [] (fun _ _ h sz => M_M_outside l D dI ad _ x2 (15 : Int32)  h sz) (cwS 2 X.1.2.2.2.2 (gwS w_437 w_438 w_5 w_439) rfl rfl rfl (by decide +kernel) ⟨by decide, by decide⟩) rfl hl.1 rfl (Nat.le_of_ble_eq_true rfl) ⟨Nat.zero_le _, Nat.zero_le _⟩ d_M_bad_116 (fun r1 s2 ho3 => ?_)
    refine gg_show_i ?_
    refine gg_if_ne X 119 142 d_M_bad_119 rfl (fun _ => ?_) (fun _ => ?_)
    · exact t_M_bad_142 X s2 _  (lv_sub hl [] rfl)
    · exact t_M_bad_122 X x0 x2 s2 _  (lv_sub hl [0, 1] rfl)
set_option maxHeartbeats 4000000 in
set_option maxRecDepth 100000 in
theorem t_M_bad_87 {p : Program} {l : Launch} {e : Env} {s0 : State} {m : MethodId} {args : Array Value} {below : List Frame} {meth : Method} {c : Code} {D : va_G} {A : Nat → Prop} {dI : Nat → ClassId} {ad : Nat → Nat} (X : CX p s0 m args meth c D vwCl (tyM dI) [] A prog_6_method_9_code 4 (some .boolean) (Cond.code y_M_bad prog_6_method_9_code 4 (some .boolean) :: WS) R_M)  (s : eS) (ls : Array Slot)  (hl : lv_has ls 4 []) : GG p l e rm_M_bad s0 m args below meth c D vwCl (tyM dI) A (wM dI ad) 0 0 (QM below args s0 D vwCl (tyM dI) A (wM dI ad) rvI) (f_M_bad_87 s) (F0 m 87 ls []) s := by
  unfold f_M_bad_87
  refine gg_iconst X 87 (1 : Int32) d_M_bad_87 (by decide) ?_
  refine gg_goto X 88 92 d_M_bad_88 rfl ?_
  exact gg_zretk X 92 rfl d_M_bad_92
set_option maxHeartbeats 4000000 in
set_option maxRecDepth 100000 in
theorem t_M_bad_35 {p : Program} {l : Launch} {e : Env} {s0 : State} {m : MethodId} {args : Array Value} {below : List Frame} {meth : Method} {c : Code} {D : va_G} {A : Nat → Prop} {dI : Nat → ClassId} {ad : Nat → Nat} (X : CX p s0 m args meth c D vwCl (tyM dI) [] A prog_6_method_9_code 4 (some .boolean) (Cond.code y_M_bad prog_6_method_9_code 4 (some .boolean) :: WS) R_M)  (s : eS) (ls : Array Slot)  (hl : lv_has ls 4 []) : GG p l e rm_M_bad s0 m args below meth c D vwCl (tyM dI) A (wM dI ad) 0 0 (QM below args s0 D vwCl (tyM dI) A (wM dI ad) rvI) (f_M_bad_35 s) (F0 m 35 ls []) s := by
  unfold f_M_bad_35
  refine gg_iconst X 35 (1 : Int32) d_M_bad_35 (by decide) ?_
  refine gg_goto X 36 40 d_M_bad_36 rfl ?_
  exact gg_zretk X 40 rfl d_M_bad_40
set_option maxHeartbeats 4000000 in
set_option maxRecDepth 100000 in
theorem t_M_bad_29 {p : Program} {l : Launch} {e : Env} {s0 : State} {m : MethodId} {args : Array Value} {below : List Frame} {meth : Method} {c : Code} {D : va_G} {A : Nat → Prop} {dI : Nat → ClassId} {ad : Nat → Nat} (X : CX p s0 m args meth c D vwCl (tyM dI) [] A prog_6_method_9_code 4 (some .boolean) (Cond.code y_M_bad prog_6_method_9_code 4 (some .boolean) :: WS) R_M) (x1 : Int32) (x2 : Int32) (s : eS) (ls : Array Slot)  (hl : lv_has ls 4 [(1, .int x1), (2, .int x2)]) : GG p l e rm_M_bad s0 m args below meth c D vwCl (tyM dI) A (wM dI ad) 0 0 (QM below args s0 D vwCl (tyM dI) A (wM dI ad) rvI) (f_M_bad_29 x1 x2 s) (F0 m 29 ls []) s := by
  unfold f_M_bad_29
  refine gg_iload_n X 29 d_M_bad_29 rfl (lv_at hl 0 rfl) ?_
  refine gg_iload_n X 30 d_M_bad_30 rfl (lv_at hl 1 rfl) ?_
  refine gg_irem X 31 d_M_bad_31 (fun _ => ?_)
  refine gg_if_eq X 32 39 d_M_bad_32 rfl (fun _ => ?_) (fun _ => ?_)
  · refine gg_iconst X 39 (0 : Int32) d_M_bad_39 (by decide) ?_
    exact gg_zretk X 40 rfl d_M_bad_40
  · exact t_M_bad_35 X s _  (lv_sub hl [] rfl)
set_option maxHeartbeats 4000000 in
set_option maxRecDepth 100000 in
theorem t_M_bad {p : Program} {l : Launch} {e : Env} {s0 : State} {m : MethodId} {args : Array Value} {below : List Frame} {meth : Method} {c : Code} {D : va_G} {A : Nat → Prop} {dI : Nat → ClassId} {ad : Nat → Nat} (X : CX p s0 m args meth c D vwCl (tyM dI) [] A prog_6_method_9_code 4 (some .boolean) (Cond.code y_M_bad prog_6_method_9_code 4 (some .boolean) :: WS) R_M) (a0 : Int32) (a1 : Int32) (a2 : Int32) (a3 : Int32) (s : eS) (ls : Array Slot)  (hl : lv_has ls 4 [(0, .int a0), (1, .int a1), (2, .int a2), (3, .int a3)]) : GG p l e rm_M_bad s0 m args below meth c D vwCl (tyM dI) A (wM dI ad) 0 0 (QM below args s0 D vwCl (tyM dI) A (wM dI ad) rvI) (f_M_bad a0 a1 a2 a3 s) (F0 m 0 ls []) s := by
  unfold f_M_bad
  refine gg_iload_n X 0 d_M_bad_0 rfl (lv_at hl 0 rfl) ?_
  refine gg_iconst X 1 (1 : Int32) d_M_bad_1 (by decide) ?_
  refine gg_icmp_ne X 2 41 d_M_bad_2 rfl (fun _ => ?_) (fun _ => ?_)
  · refine gg_iload_n X 41 d_M_bad_41 rfl (lv_at hl 0 rfl) ?_
    refine gg_bipush X 42 (10 : Int32) d_M_bad_42 (by decide) ?_
    refine gg_icmp_lt X 44 54 d_M_bad_44 rfl (fun _ => ?_) (fun _ => ?_)
    · refine gg_iload_n X 54 d_M_bad_54 rfl (lv_at hl 1 rfl) ?_
      refine gg_iconst X 55 (2 : Int32) d_M_bad_55 (by decide) ?_
      refine gg_callS X 56 nwOk_M [.int a1, .int (2 : Int32)] [] (fun _ _ h sz => M_M_outside l D dI ad _ a1 (2 : Int32)  h sz) (cwS 2 X.1.2.2.2.2 (gwS w_437 w_438 w_5 w_439) rfl rfl rfl (by decide +kernel) ⟨by decide, by decide⟩) rfl hl.1 rfl (Nat.le_of_ble_eq_true rfl) ⟨Nat.zero_le _, Nat.zero_le _⟩ d_M_bad_56 (fun r1 s2 ho3 => ?_)
      refine gg_show_i ?_
      refine gg_if_eq X 59 64 d_M_bad_59 rfl (fun _ => ?_) (fun _ => ?_)
      · refine gg_iload_n X 64 d_M_bad_64 rfl (lv_at hl 0 rfl) ?_
        refine gg_iconst X 65 (2 : Int32) d_M_bad_65 (by decide) ?_
        refine gg_icmp_ne X 66 93 d_M_bad_66 rfl (fun _ => ?_) (fun _ => ?_)
        · refine gg_iload_n X 93 d_M_bad_93 rfl (lv_at hl 0 rfl) ?_
          refine gg_iconst X 94 (3 : Int32) d_M_bad_94 (by decide) ?_
          refine gg_icmp_ne X 95 108 d_M_bad_95 rfl (fun _ => ?_) (fun _ => ?_)
          · exact t_M_bad_108 X a0 a2 s2 _  (lv_sub hl [0, 2] rfl)
          · refine gg_iload_n X 98 d_M_bad_98 rfl (lv_at hl 2 rfl) ?_
            refine gg_sipush X 99 (255 : Int32) d_M_bad_99 (by decide) ?_
            refine gg_callS X 102 nwOk_M [.int a2, .int (255 : Int32)] [] (fun _ _ h sz => M_M_outside l D dI ad _ a2 (255 : Int32)  h sz) (cwS 2 X.1.2.2.2.2 (gwS w_437 w_438 w_5 w_439) rfl rfl rfl (by decide +kernel) ⟨by decide, by decide⟩) rfl hl.1 rfl (Nat.le_of_ble_eq_true rfl) ⟨Nat.zero_le _, Nat.zero_le _⟩ d_M_bad_102 (fun r4 s5 ho6 => ?_)
            refine gg_show_i ?_
            refine gg_if_ne X 105 142 d_M_bad_105 rfl (fun _ => ?_) (fun _ => ?_)
            · exact t_M_bad_142 X s5 _  (lv_sub hl [] rfl)
            · exact t_M_bad_108 X a0 a2 s5 _  (lv_sub hl [0, 2] rfl)
        · refine gg_iload_n X 69 d_M_bad_69 rfl (lv_at hl 2 rfl) ?_
          refine gg_bipush X 70 (15 : Int32) d_M_bad_70 (by decide) ?_
          refine gg_callS X 72 nwOk_M [.int a2, .int (15 : Int32)] [] (fun _ _ h sz => M_M_outside l D dI ad _ a2 (15 : Int32)  h sz) (cwS 2 X.1.2.2.2.2 (gwS w_437 w_438 w_5 w_439) rfl rfl rfl (by decide +kernel) ⟨by decide, by decide⟩) rfl hl.1 rfl (Nat.le_of_ble_eq_true rfl) ⟨Nat.zero_le _, Nat.zero_le _⟩ d_M_bad_72 (fun r7 s8 ho9 => ?_)
          refine gg_show_i ?_
          refine gg_if_ne X 75 87 d_M_bad_75 rfl (fun _ => ?_) (fun _ => ?_)
          · exact t_M_bad_87 X s8 _  (lv_sub hl [] rfl)
          · refine gg_iload_n X 78 d_M_bad_78 rfl (lv_at hl 3 rfl) ?_
            refine gg_bipush X 79 (15 : Int32) d_M_bad_79 (by decide) ?_
            refine gg_callS X 81 nwOk_M [.int a3, .int (15 : Int32)] [] (fun _ _ h sz => M_M_outside l D dI ad _ a3 (15 : Int32)  h sz) (cwS 2 X.1.2.2.2.2 (gwS w_437 w_438 w_5 w_439) rfl rfl rfl (by decide +kernel) ⟨by decide, by decide⟩) rfl hl.1 rfl (Nat.le_of_ble_eq_true rfl) ⟨Nat.zero_le _, Nat.zero_le _⟩ d_M_bad_81 (fun r10 s11 ho12 => ?_)
            refine gg_show_i ?_
            refine gg_if_eq X 84 91 d_M_bad_84 rfl (fun _ => ?_) (fun _ => ?_)
            · refine gg_iconst X 91 (0 : Int32) d_M_bad_91 (by decide) ?_
              exact gg_zretk X 92 rfl d_M_bad_92
            · exact t_M_bad_87 X s11 _  (lv_sub hl [] rfl)
      · refine gg_iconst X 62 (1 : Int32) d_M_bad_62 (by decide) ?_
        exact gg_zretk X 63 rfl d_M_bad_63
    · refine gg_iload_n X 47 d_M_bad_47 rfl (lv_at hl 1 rfl) ?_
      refine gg_bipush X 48 (15 : Int32) d_M_bad_48 (by decide) ?_
      refine gg_callS X 50 nwOk_M [.int a1, .int (15 : Int32)] [] (fun _ _ h sz => M_M_outside l D dI ad _ a1 (15 : Int32)  h sz) (cwS 2 X.1.2.2.2.2 (gwS w_437 w_438 w_5 w_439) rfl rfl rfl (by decide +kernel) ⟨by decide, by decide⟩) rfl hl.1 rfl (Nat.le_of_ble_eq_true rfl) ⟨Nat.zero_le _, Nat.zero_le _⟩ d_M_bad_50 (fun r13 s14 ho15 => ?_)
      refine gg_show_i ?_
      exact gg_zret X 53 d_M_bad_53
  · refine gg_iload_n X 5 d_M_bad_5 rfl (lv_at hl 1 rfl) ?_
    refine gg_bipush X 6 (15 : Int32) d_M_bad_6 (by decide) ?_
    refine gg_callS X 8 nwOk_M [.int a1, .int (15 : Int32)] [] (fun _ _ h sz => M_M_outside l D dI ad _ a1 (15 : Int32)  h sz) (cwS 2 X.1.2.2.2.2 (gwS w_437 w_438 w_5 w_439) rfl rfl rfl (by decide +kernel) ⟨by decide, by decide⟩) rfl hl.1 rfl (Nat.le_of_ble_eq_true rfl) ⟨Nat.zero_le _, Nat.zero_le _⟩ d_M_bad_8 (fun r16 s17 ho18 => ?_)
    refine gg_show_i ?_
    refine gg_if_ne X 11 35 d_M_bad_11 rfl (fun _ => ?_) (fun _ => ?_)
    · exact t_M_bad_35 X s17 _  (lv_sub hl [] rfl)
    · refine gg_iload_n X 14 d_M_bad_14 rfl (lv_at hl 2 rfl) ?_
      refine gg_iconst X 15 (1 : Int32) d_M_bad_15 (by decide) ?_
      refine gg_icmp_eq X 16 29 d_M_bad_16 rfl (fun _ => ?_) (fun _ => ?_)
      · exact t_M_bad_29 X a1 a2 s17 _  (lv_sub hl [1, 2] rfl)
      · refine gg_iload_n X 19 d_M_bad_19 rfl (lv_at hl 2 rfl) ?_
        refine gg_iconst X 20 (2 : Int32) d_M_bad_20 (by decide) ?_
        refine gg_icmp_eq X 21 29 d_M_bad_21 rfl (fun _ => ?_) (fun _ => ?_)
        · exact t_M_bad_29 X a1 a2 s17 _  (lv_sub hl [1, 2] rfl)
        · refine gg_iload_n X 24 d_M_bad_24 rfl (lv_at hl 2 rfl) ?_
          refine gg_iconst X 25 (4 : Int32) d_M_bad_25 (by decide) ?_
          refine gg_icmp_ne X 26 35 d_M_bad_26 rfl (fun _ => ?_) (fun _ => ?_)
          · exact t_M_bad_35 X s17 _  (lv_sub hl [] rfl)
          · exact t_M_bad_29 X a1 a2 s17 _  (lv_sub hl [1, 2] rfl)
theorem M_M_bad (l : Launch) (D : va_G) (dI : Nat → ClassId) (ad : Nat → Nat) (s : eS) (a0 : Int32) (a1 : Int32) (a2 : Int32) (a3 : Int32)  {r : Int32} {s' : eS} (h : f_M_bad a0 a1 a2 a3 s = some (r, s')) (sz : Nat) : Met l y_M_bad (Cond.code y_M_bad prog_6_method_9_code 4 (some .boolean) :: WS) rm_M_bad (Px (wM dI ad) D vwCl (tyM dI) [] sz s [.int a0, .int a1, .int a2, .int a3]) (Qx rvI (wM dI ad) D vwCl (tyM dI) (va_A ((wM dI ad) s) sz) r s') 0 0 (va_A ((wM dI ad) s) sz) :=
  met_of [.int a0, .int a1, .int a2, .int a3] (by decide) rfl rfl (Nat.le_of_ble_eq_true rfl) h (fun p e s0 m args below meth c A ls X hl => t_M_bad X a0 a1 a2 a3 s ls  hl)
set_option maxHeartbeats 4000000 in
set_option maxRecDepth 100000 in
theorem t_M_wrongState_85 {p : Program} {l : Launch} {e : Env} {s0 : State} {m : MethodId} {args : Array Value} {below : List Frame} {meth : Method} {c : Code} {D : va_G} {A : Nat → Prop} {dI : Nat → ClassId} {ad : Nat → Nat} (X : CX p s0 m args meth c D vwCl (tyM dI) [] A prog_6_method_10_code 4 (some .boolean) (Cond.code y_M_wrongState prog_6_method_10_code 4 (some .boolean) :: WS) R_M)  (s : eS) (ls : Array Slot)  (hl : lv_has ls 4 []) : GG p l e rm_M_wrongState s0 m args below meth c D vwCl (tyM dI) A (wM dI ad) 0 0 (QM below args s0 D vwCl (tyM dI) A (wM dI ad) rvI) (f_M_wrongState_85 s) (F0 m 85 ls []) s := by
  unfold f_M_wrongState_85
  refine gg_iconst X 85 (1 : Int32) d_M_wrongState_85 (by decide) ?_
  refine gg_goto X 86 90 d_M_wrongState_86 rfl ?_
  exact gg_zretk X 90 rfl d_M_wrongState_90
set_option maxHeartbeats 4000000 in
set_option maxRecDepth 100000 in
theorem t_M_wrongState_130 {p : Program} {l : Launch} {e : Env} {s0 : State} {m : MethodId} {args : Array Value} {below : List Frame} {meth : Method} {c : Code} {D : va_G} {A : Nat → Prop} {dI : Nat → ClassId} {ad : Nat → Nat} (X : CX p s0 m args meth c D vwCl (tyM dI) [] A prog_6_method_10_code 4 (some .boolean) (Cond.code y_M_wrongState prog_6_method_10_code 4 (some .boolean) :: WS) R_M)  (s : eS) (ls : Array Slot)  (hl : lv_has ls 4 []) : GG p l e rm_M_wrongState s0 m args below meth c D vwCl (tyM dI) A (wM dI ad) 0 0 (QM below args s0 D vwCl (tyM dI) A (wM dI ad) rvI) (f_M_wrongState_130 s) (F0 m 130 ls []) s := by
  unfold f_M_wrongState_130
  refine gg_iconst X 130 (1 : Int32) d_M_wrongState_130 (by decide) ?_
  refine gg_goto X 131 135 d_M_wrongState_131 rfl ?_
  exact gg_zretk X 135 rfl d_M_wrongState_135
set_option maxHeartbeats 4000000 in
set_option maxRecDepth 100000 in
theorem t_M_wrongState_160 {p : Program} {l : Launch} {e : Env} {s0 : State} {m : MethodId} {args : Array Value} {below : List Frame} {meth : Method} {c : Code} {D : va_G} {A : Nat → Prop} {dI : Nat → ClassId} {ad : Nat → Nat} (X : CX p s0 m args meth c D vwCl (tyM dI) [] A prog_6_method_10_code 4 (some .boolean) (Cond.code y_M_wrongState prog_6_method_10_code 4 (some .boolean) :: WS) R_M)  (s : eS) (ls : Array Slot)  (hl : lv_has ls 4 []) : GG p l e rm_M_wrongState s0 m args below meth c D vwCl (tyM dI) A (wM dI ad) 0 0 (QM below args s0 D vwCl (tyM dI) A (wM dI ad) rvI) (f_M_wrongState_160 s) (F0 m 160 ls []) s := by
  unfold f_M_wrongState_160
  refine gg_iconst X 160 (1 : Int32) d_M_wrongState_160 (by decide) ?_
  refine gg_goto X 161 165 d_M_wrongState_161 rfl ?_
  exact gg_zretk X 165 rfl d_M_wrongState_165
set_option maxHeartbeats 4000000 in
set_option maxRecDepth 100000 in
theorem t_M_wrongState_201 {p : Program} {l : Launch} {e : Env} {s0 : State} {m : MethodId} {args : Array Value} {below : List Frame} {meth : Method} {c : Code} {D : va_G} {A : Nat → Prop} {dI : Nat → ClassId} {ad : Nat → Nat} (X : CX p s0 m args meth c D vwCl (tyM dI) [] A prog_6_method_10_code 4 (some .boolean) (Cond.code y_M_wrongState prog_6_method_10_code 4 (some .boolean) :: WS) R_M)  (s : eS) (ls : Array Slot)  (hl : lv_has ls 4 []) : GG p l e rm_M_wrongState s0 m args below meth c D vwCl (tyM dI) A (wM dI ad) 0 0 (QM below args s0 D vwCl (tyM dI) A (wM dI ad) rvI) (f_M_wrongState_201 s) (F0 m 201 ls []) s := by
  unfold f_M_wrongState_201
  refine gg_iconst X 201 (1 : Int32) d_M_wrongState_201 (by decide) ?_
  refine gg_goto X 202 206 d_M_wrongState_202 rfl ?_
  exact gg_zretk X 206 rfl d_M_wrongState_206
set_option maxHeartbeats 4000000 in
set_option maxRecDepth 100000 in
theorem t_M_wrongState {p : Program} {l : Launch} {e : Env} {s0 : State} {m : MethodId} {args : Array Value} {below : List Frame} {meth : Method} {c : Code} {D : va_G} {A : Nat → Prop} {dI : Nat → ClassId} {ad : Nat → Nat} (X : CX p s0 m args meth c D vwCl (tyM dI) [] A prog_6_method_10_code 4 (some .boolean) (Cond.code y_M_wrongState prog_6_method_10_code 4 (some .boolean) :: WS) R_M) (a1 : Int32) (a2 : Int32) (a3 : Int32) (s : eS) (ls : Array Slot)  (hl : lv_has ls 4 [(0, .ref (ad 0)), (1, .int a1), (2, .int a2), (3, .int a3)]) : GG p l e rm_M_wrongState s0 m args below meth c D vwCl (tyM dI) A (wM dI ad) 0 0 (QM below args s0 D vwCl (tyM dI) A (wM dI ad) rvI) (f_M_wrongState a1 a2 a3 s) (F0 m 0 ls []) s := by
  unfold f_M_wrongState
  refine gg_iload_n X 0 d_M_wrongState_0 rfl (lv_at hl 1 rfl) ?_
  refine gg_eqc (fun h1 => ?_) (fun h1 => ?_)
  · refine gg_tin X 1 48 d_M_wrongState_1 h1 (by decide) (by decide) rfl rfl ?_
    refine gg_aload_n X 48 d_M_wrongState_48 rfl (lv_at hl 0 rfl) ?_
    refine gg_get_M_stateOf X 49 (Or.inl (List.mem_cons_of_mem _ w_362)) d_M_wrongState_49 ?_
    refine gg_iload_n X 52 d_M_wrongState_52 rfl (lv_at hl 2 rfl) ?_
    refine gg_ald_A_stateOf X 53 d_M_wrongState_53 ?_
    refine gg_iconst X 54 (1 : Int32) d_M_wrongState_54 (by decide) ?_
    refine gg_icmp_eq X 55 62 d_M_wrongState_55 rfl (fun _ => ?_) (fun _ => ?_)
    · refine gg_iconst X 62 (0 : Int32) d_M_wrongState_62 (by decide) ?_
      exact gg_zretk X 63 rfl d_M_wrongState_63
    · refine gg_iconst X 58 (1 : Int32) d_M_wrongState_58 (by decide) ?_
      refine gg_goto X 59 63 d_M_wrongState_59 rfl ?_
      exact gg_zretk X 63 rfl d_M_wrongState_63
  refine gg_eqc (fun h2 => ?_) (fun h2 => ?_)
  · refine gg_tin X 1 48 d_M_wrongState_1 h2 (by decide) (by decide) rfl rfl ?_
    refine gg_aload_n X 48 d_M_wrongState_48 rfl (lv_at hl 0 rfl) ?_
    refine gg_get_M_stateOf X 49 (Or.inl (List.mem_cons_of_mem _ w_362)) d_M_wrongState_49 ?_
    refine gg_iload_n X 52 d_M_wrongState_52 rfl (lv_at hl 2 rfl) ?_
    refine gg_ald_A_stateOf X 53 d_M_wrongState_53 ?_
    refine gg_iconst X 54 (1 : Int32) d_M_wrongState_54 (by decide) ?_
    refine gg_icmp_eq X 55 62 d_M_wrongState_55 rfl (fun _ => ?_) (fun _ => ?_)
    · refine gg_iconst X 62 (0 : Int32) d_M_wrongState_62 (by decide) ?_
      exact gg_zretk X 63 rfl d_M_wrongState_63
    · refine gg_iconst X 58 (1 : Int32) d_M_wrongState_58 (by decide) ?_
      refine gg_goto X 59 63 d_M_wrongState_59 rfl ?_
      exact gg_zretk X 63 rfl d_M_wrongState_63
  refine gg_eqc (fun h3 => ?_) (fun h3 => ?_)
  · refine gg_tin X 1 64 d_M_wrongState_1 h3 (by decide) (by decide) rfl rfl ?_
    refine gg_aload_n X 64 d_M_wrongState_64 rfl (lv_at hl 0 rfl) ?_
    refine gg_get_M_stateOf X 65 (Or.inl (List.mem_cons_of_mem _ w_362)) d_M_wrongState_65 ?_
    refine gg_iload_n X 68 d_M_wrongState_68 rfl (lv_at hl 2 rfl) ?_
    refine gg_ald_A_stateOf X 69 d_M_wrongState_69 ?_
    refine gg_iconst X 70 (1 : Int32) d_M_wrongState_70 (by decide) ?_
    refine gg_icmp_ne X 71 85 d_M_wrongState_71 rfl (fun _ => ?_) (fun _ => ?_)
    · exact t_M_wrongState_85 X s _  (lv_sub hl [] rfl)
    · refine gg_aload_n X 74 d_M_wrongState_74 rfl (lv_at hl 0 rfl) ?_
      refine gg_get_M_phase X 75 (Or.inl (List.mem_cons_of_mem _ w_368)) d_M_wrongState_75 ?_
      refine gg_iconst X 78 (2 : Int32) d_M_wrongState_78 (by decide) ?_
      refine gg_iload_n X 79 d_M_wrongState_79 rfl (lv_at hl 2 rfl) ?_
      refine gg_imul X 80 d_M_wrongState_80 ?_
      refine gg_ald_A_phase X 81 d_M_wrongState_81 ?_
      refine gg_if_ne X 82 89 d_M_wrongState_82 rfl (fun _ => ?_) (fun _ => ?_)
      · refine gg_iconst X 89 (0 : Int32) d_M_wrongState_89 (by decide) ?_
        exact gg_zretk X 90 rfl d_M_wrongState_90
      · exact t_M_wrongState_85 X s _  (lv_sub hl [] rfl)
  refine gg_eqc (fun h4 => ?_) (fun h4 => ?_)
  · refine gg_tin X 1 91 d_M_wrongState_1 h4 (by decide) (by decide) rfl rfl ?_
    refine gg_aload_n X 91 d_M_wrongState_91 rfl (lv_at hl 0 rfl) ?_
    refine gg_get_M_stateOf X 92 (Or.inl (List.mem_cons_of_mem _ w_362)) d_M_wrongState_92 ?_
    refine gg_iload_n X 95 d_M_wrongState_95 rfl (lv_at hl 2 rfl) ?_
    refine gg_ald_A_stateOf X 96 d_M_wrongState_96 ?_
    refine gg_if_ne X 97 104 d_M_wrongState_97 rfl (fun _ => ?_) (fun _ => ?_)
    · refine gg_iconst X 104 (0 : Int32) d_M_wrongState_104 (by decide) ?_
      exact gg_zretk X 105 rfl d_M_wrongState_105
    · refine gg_iconst X 100 (1 : Int32) d_M_wrongState_100 (by decide) ?_
      refine gg_goto X 101 105 d_M_wrongState_101 rfl ?_
      exact gg_zretk X 105 rfl d_M_wrongState_105
  refine gg_eqc (fun h5 => ?_) (fun h5 => ?_)
  · refine gg_tin X 1 106 d_M_wrongState_1 h5 (by decide) (by decide) rfl rfl ?_
    refine gg_aload_n X 106 d_M_wrongState_106 rfl (lv_at hl 0 rfl) ?_
    refine gg_get_M_stateOf X 107 (Or.inl (List.mem_cons_of_mem _ w_362)) d_M_wrongState_107 ?_
    refine gg_iload_n X 110 d_M_wrongState_110 rfl (lv_at hl 2 rfl) ?_
    refine gg_ald_A_stateOf X 111 d_M_wrongState_111 ?_
    refine gg_iconst X 112 (2 : Int32) d_M_wrongState_112 (by decide) ?_
    refine gg_icmp_ne X 113 130 d_M_wrongState_113 rfl (fun _ => ?_) (fun _ => ?_)
    · exact t_M_wrongState_130 X s _  (lv_sub hl [] rfl)
    · refine gg_aload_n X 116 d_M_wrongState_116 rfl (lv_at hl 0 rfl) ?_
      refine gg_get_M_phase X 117 (Or.inl (List.mem_cons_of_mem _ w_368)) d_M_wrongState_117 ?_
      refine gg_iconst X 120 (2 : Int32) d_M_wrongState_120 (by decide) ?_
      refine gg_iload_n X 121 d_M_wrongState_121 rfl (lv_at hl 2 rfl) ?_
      refine gg_imul X 122 d_M_wrongState_122 ?_
      refine gg_iload_n X 123 d_M_wrongState_123 rfl (lv_at hl 3 rfl) ?_
      refine gg_iadd X 124 d_M_wrongState_124 ?_
      refine gg_ald_A_phase X 125 d_M_wrongState_125 ?_
      refine gg_iconst X 126 (1 : Int32) d_M_wrongState_126 (by decide) ?_
      refine gg_icmp_eq X 127 134 d_M_wrongState_127 rfl (fun _ => ?_) (fun _ => ?_)
      · refine gg_iconst X 134 (0 : Int32) d_M_wrongState_134 (by decide) ?_
        exact gg_zretk X 135 rfl d_M_wrongState_135
      · exact t_M_wrongState_130 X s _  (lv_sub hl [] rfl)
  refine gg_eqc (fun h6 => ?_) (fun h6 => ?_)
  · refine gg_tin X 1 136 d_M_wrongState_1 h6 (by decide) (by decide) rfl rfl ?_
    refine gg_aload_n X 136 d_M_wrongState_136 rfl (lv_at hl 0 rfl) ?_
    refine gg_get_M_stateOf X 137 (Or.inl (List.mem_cons_of_mem _ w_362)) d_M_wrongState_137 ?_
    refine gg_iload_n X 140 d_M_wrongState_140 rfl (lv_at hl 2 rfl) ?_
    refine gg_ald_A_stateOf X 141 d_M_wrongState_141 ?_
    refine gg_iconst X 142 (2 : Int32) d_M_wrongState_142 (by decide) ?_
    refine gg_icmp_ne X 143 160 d_M_wrongState_143 rfl (fun _ => ?_) (fun _ => ?_)
    · exact t_M_wrongState_160 X s _  (lv_sub hl [] rfl)
    · refine gg_aload_n X 146 d_M_wrongState_146 rfl (lv_at hl 0 rfl) ?_
      refine gg_get_M_phase X 147 (Or.inl (List.mem_cons_of_mem _ w_368)) d_M_wrongState_147 ?_
      refine gg_iconst X 150 (2 : Int32) d_M_wrongState_150 (by decide) ?_
      refine gg_iload_n X 151 d_M_wrongState_151 rfl (lv_at hl 2 rfl) ?_
      refine gg_imul X 152 d_M_wrongState_152 ?_
      refine gg_iload_n X 153 d_M_wrongState_153 rfl (lv_at hl 3 rfl) ?_
      refine gg_iadd X 154 d_M_wrongState_154 ?_
      refine gg_ald_A_phase X 155 d_M_wrongState_155 ?_
      refine gg_iconst X 156 (3 : Int32) d_M_wrongState_156 (by decide) ?_
      refine gg_icmp_eq X 157 164 d_M_wrongState_157 rfl (fun _ => ?_) (fun _ => ?_)
      · refine gg_iconst X 164 (0 : Int32) d_M_wrongState_164 (by decide) ?_
        exact gg_zretk X 165 rfl d_M_wrongState_165
      · exact t_M_wrongState_160 X s _  (lv_sub hl [] rfl)
  refine gg_eqc (fun h7 => ?_) (fun h7 => ?_)
  · refine gg_tin X 1 166 d_M_wrongState_1 h7 (by decide) (by decide) rfl rfl ?_
    refine gg_aload_n X 166 d_M_wrongState_166 rfl (lv_at hl 0 rfl) ?_
    refine gg_get_M_stateOf X 167 (Or.inl (List.mem_cons_of_mem _ w_362)) d_M_wrongState_167 ?_
    refine gg_iload_n X 170 d_M_wrongState_170 rfl (lv_at hl 2 rfl) ?_
    refine gg_ald_A_stateOf X 171 d_M_wrongState_171 ?_
    refine gg_iconst X 172 (2 : Int32) d_M_wrongState_172 (by decide) ?_
    refine gg_icmp_eq X 173 180 d_M_wrongState_173 rfl (fun _ => ?_) (fun _ => ?_)
    · refine gg_iconst X 180 (0 : Int32) d_M_wrongState_180 (by decide) ?_
      exact gg_zretk X 181 rfl d_M_wrongState_181
    · refine gg_iconst X 176 (1 : Int32) d_M_wrongState_176 (by decide) ?_
      refine gg_goto X 177 181 d_M_wrongState_177 rfl ?_
      exact gg_zretk X 181 rfl d_M_wrongState_181
  refine gg_eqc (fun h8 => ?_) (fun h8 => ?_)
  · refine gg_tin X 1 182 d_M_wrongState_1 h8 (by decide) (by decide) rfl rfl ?_
    refine gg_aload_n X 182 d_M_wrongState_182 rfl (lv_at hl 0 rfl) ?_
    refine gg_get_M_stateOf X 183 (Or.inl (List.mem_cons_of_mem _ w_362)) d_M_wrongState_183 ?_
    refine gg_iload_n X 186 d_M_wrongState_186 rfl (lv_at hl 2 rfl) ?_
    refine gg_ald_A_stateOf X 187 d_M_wrongState_187 ?_
    refine gg_if_eq X 188 201 d_M_wrongState_188 rfl (fun _ => ?_) (fun _ => ?_)
    · exact t_M_wrongState_201 X s _  (lv_sub hl [] rfl)
    · refine gg_aload_n X 191 d_M_wrongState_191 rfl (lv_at hl 0 rfl) ?_
      refine gg_get_M_stateOf X 192 (Or.inl (List.mem_cons_of_mem _ w_362)) d_M_wrongState_192 ?_
      refine gg_iload_n X 195 d_M_wrongState_195 rfl (lv_at hl 2 rfl) ?_
      refine gg_ald_A_stateOf X 196 d_M_wrongState_196 ?_
      refine gg_iconst X 197 (2 : Int32) d_M_wrongState_197 (by decide) ?_
      refine gg_icmp_ne X 198 205 d_M_wrongState_198 rfl (fun _ => ?_) (fun _ => ?_)
      · refine gg_iconst X 205 (0 : Int32) d_M_wrongState_205 (by decide) ?_
        exact gg_zretk X 206 rfl d_M_wrongState_206
      · exact t_M_wrongState_201 X s _  (lv_sub hl [] rfl)
  refine gg_tout X 1 207 d_M_wrongState_1 (by have q0 := lv_neT (a := 2) h1 (by decide); have q1 := lv_neT (a := 3) h2 (by decide); have q2 := lv_neT (a := 4) h3 (by decide); have q3 := lv_neT (a := 5) h4 (by decide); have q4 := lv_neT (a := 6) h5 (by decide); have q5 := lv_neT (a := 7) h6 (by decide); have q6 := lv_neT (a := 8) h7 (by decide); have q7 := lv_neT (a := 9) h8 (by decide); omega) rfl ?_
  refine gg_iconst X 207 (0 : Int32) d_M_wrongState_207 (by decide) ?_
  exact gg_zretk X 208 rfl d_M_wrongState_208
theorem M_M_wrongState (l : Launch) (D : va_G) (dI : Nat → ClassId) (ad : Nat → Nat) (s : eS) (a1 : Int32) (a2 : Int32) (a3 : Int32)  {r : Int32} {s' : eS} (h : f_M_wrongState a1 a2 a3 s = some (r, s')) (sz : Nat) : Met l y_M_wrongState (Cond.code y_M_wrongState prog_6_method_10_code 4 (some .boolean) :: WS) rm_M_wrongState (Px (wM dI ad) D vwCl (tyM dI) [] sz s [.ref (ad 0), .int a1, .int a2, .int a3]) (Qx rvI (wM dI ad) D vwCl (tyM dI) (va_A ((wM dI ad) s) sz) r s') 0 0 (va_A ((wM dI ad) s) sz) :=
  met_of [.ref (ad 0), .int a1, .int a2, .int a3] (by decide) rfl rfl (Nat.le_of_ble_eq_true rfl) h (fun p e s0 m args below meth c A ls X hl => t_M_wrongState X a1 a2 a3 s ls  hl)
