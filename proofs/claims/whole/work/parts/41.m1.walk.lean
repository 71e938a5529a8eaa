set_option maxHeartbeats 4000000 in
set_option maxRecDepth 100000 in
theorem t_M_taken_63 {p : Program} {l : Launch} {e : Env} {s0 : State} {m : MethodId} {args : Array Value} {below : List Frame} {meth : Method} {c : Code} {D : va_G} {A : Nat → Prop} {dI : Nat → ClassId} {ad : Nat → Nat} (X : CX p s0 m args meth c D vwCl (tyM dI) [] A prog_6_method_11_code 6 (some .boolean) (Cond.code y_M_taken prog_6_method_11_code 6 (some .boolean) :: WS) R_M) : ∀ (fl : Nat) (x2 : Int32) (x3 : Int32) (x5 : Int32) (s : eS) (ls : Array Slot), lv_has ls 6 [(0, .ref (ad 0)), (2, .int x2), (3, .int x3), (5, .int x5)] → GG p l e rm_M_taken s0 m args below meth c D vwCl (tyM dI) A (wM dI ad) 0 0 (QM below args s0 D vwCl (tyM dI) A (wM dI ad) rvI) (f_M_taken_63 fl x2 x3 x5 s) (F0 m 63 ls []) s := by
  intro fl
  induction fl with
  | zero =>
    intro x2 x3 x5 s ls hl
    rw [f_M_taken_63]
    exact gg_none
  | succ fl ih =>
    intro x2 x3 x5 s ls hl
    rw [f_M_taken_63]
    refine gg_iload X 63 d_M_taken_63 (lv_at hl 3 rfl) ?_
    refine gg_iload_n X 65 d_M_taken_65 rfl (lv_at hl 1 rfl) ?_
    refine gg_iload_n X 66 d_M_taken_66 rfl (lv_at hl 2 rfl) ?_
    refine gg_iadd X 67 d_M_taken_67 ?_
    refine gg_icmp_ge X 68 88 d_M_taken_68 rfl (fun _ => ?_) (fun _ => ?_)
    · refine gg_iconst X 88 (0 : Int32) d_M_taken_88 (by decide) ?_
      exact gg_zretk X 89 rfl d_M_taken_89
    · refine gg_aload_n X 71 d_M_taken_71 rfl (lv_at hl 0 rfl) ?_
      refine gg_iload X 72 d_M_taken_72 (lv_at hl 3 rfl) ?_
      refine gg_callV X 74 nwOk_M [.int x5] [] (fun _ _ h sz => M_M_kind l D dI ad _ x5  h sz) (cwV 1 X.1.2.2.2.2 (gwV w_440 w_442 ws_M_kind w_5 w_443) rfl rfl rfl (by decide +kernel) ⟨by decide, by decide⟩) (he_M_Main) rfl rfl hl.1 rfl (Nat.le_of_ble_eq_true rfl) ⟨Nat.zero_le _, Nat.zero_le _⟩ d_M_taken_74 (fun r1 s2 ho3 => ?_)
      refine gg_show_i ?_
      refine gg_if_eq X 77 82 d_M_taken_77 rfl (fun _ => ?_) (fun _ => ?_)
      · refine gg_iinc X 82 (k := 3) (1 : Int32) (fun v4 => [(5, .int v4), (0, .ref (ad 0)), (2, .int x2), (3, .int x3)]) d_M_taken_82 hl rfl (by decide) (by decide) (fun _ => rfl) (fun v4 ls hl => ?_)
        refine gg_goto X 85 63 d_M_taken_85 rfl ?_
        exact ih x2 x3 v4 s2 _  (lv_sub hl [1, 2, 3, 0] rfl)
      · refine gg_iconst X 80 (1 : Int32) d_M_taken_80 (by decide) ?_
        exact gg_zretk X 81 rfl d_M_taken_81
set_option maxHeartbeats 4000000 in
set_option maxRecDepth 100000 in
theorem t_M_taken_111 {p : Program} {l : Launch} {e : Env} {s0 : State} {m : MethodId} {args : Array Value} {below : List Frame} {meth : Method} {c : Code} {D : va_G} {A : Nat → Prop} {dI : Nat → ClassId} {ad : Nat → Nat} (X : CX p s0 m args meth c D vwCl (tyM dI) [] A prog_6_method_11_code 6 (some .boolean) (Cond.code y_M_taken prog_6_method_11_code 6 (some .boolean) :: WS) R_M)  (s : eS) (ls : Array Slot)  (hl : lv_has ls 6 []) : GG p l e rm_M_taken s0 m args below meth c D vwCl (tyM dI) A (wM dI ad) 0 0 (QM below args s0 D vwCl (tyM dI) A (wM dI ad) rvI) (f_M_taken_111 s) (F0 m 111 ls []) s := by
  unfold f_M_taken_111
  refine gg_iconst X 111 (1 : Int32) d_M_taken_111 (by decide) ?_
  refine gg_goto X 112 116 d_M_taken_112 rfl ?_
  exact gg_zretk X 116 rfl d_M_taken_116
set_option maxHeartbeats 4000000 in
set_option maxRecDepth 100000 in
theorem t_M_taken {p : Program} {l : Launch} {e : Env} {s0 : State} {m : MethodId} {args : Array Value} {below : List Frame} {meth : Method} {c : Code} {D : va_G} {A : Nat → Prop} {dI : Nat → ClassId} {ad : Nat → Nat} (X : CX p s0 m args meth c D vwCl (tyM dI) [] A prog_6_method_11_code 6 (some .boolean) (Cond.code y_M_taken prog_6_method_11_code 6 (some .boolean) :: WS) R_M) (a1 : Int32) (a2 : Int32) (a3 : Int32) (a4 : Int32) (s : eS) (ls : Array Slot)  (hl : lv_has ls 6 [(0, .ref (ad 0)), (1, .int a1), (2, .int a2), (3, .int a3), (4, .int a4)]) : GG p l e rm_M_taken s0 m args below meth c D vwCl (tyM dI) A (wM dI ad) 0 0 (QM below args s0 D vwCl (tyM dI) A (wM dI ad) rvI) (f_M_taken a1 a2 a3 a4 s) (F0 m 0 ls []) s := by
  unfold f_M_taken
  refine gg_iload_n X 0 d_M_taken_0 rfl (lv_at hl 1 rfl) ?_
  refine gg_eqc (fun h1 => ?_) (fun h1 => ?_)
  · refine gg_tin X 1 60 d_M_taken_1 h1 (by decide) (by decide) rfl rfl ?_
    refine gg_iload_n X 60 d_M_taken_60 rfl (lv_at hl 2 rfl) ?_
    refine gg_istore X 61 (fun v2 => [(5, .int v2), (0, .ref (ad 0)), (1, .int a1), (2, .int a2), (3, .int a3), (4, .int a4)]) d_M_taken_61 hl (by decide) (fun _ => rfl) (fun v2 ls hl => ?_)
    exact t_M_taken_63 X fu a2 a3 v2 s _  (lv_sub hl [1, 3, 4, 0] rfl)
  refine gg_eqc (fun h3 => ?_) (fun h3 => ?_)
  · refine gg_tin X 1 90 d_M_taken_1 h3 (by decide) (by decide) rfl rfl ?_
    refine gg_aload_n X 90 d_M_taken_90 rfl (lv_at hl 0 rfl) ?_
    refine gg_iload_n X 91 d_M_taken_91 rfl (lv_at hl 3 rfl) ?_
    refine gg_callV X 92 nwOk_M [.int a3] [] (fun _ _ h sz => M_M_kind l D dI ad _ a3  h sz) (cwV 1 X.1.2.2.2.2 (gwV w_440 w_442 ws_M_kind w_5 w_443) rfl rfl rfl (by decide +kernel) ⟨by decide, by decide⟩) (he_M_Main) rfl rfl hl.1 rfl (Nat.le_of_ble_eq_true rfl) ⟨Nat.zero_le _, Nat.zero_le _⟩ d_M_taken_92 (fun r4 s5 ho6 => ?_)
    refine gg_show_i ?_
    refine gg_iconst X 95 (2 : Int32) d_M_taken_95 (by decide) ?_
    refine gg_iload_n X 96 d_M_taken_96 rfl (lv_at hl 2 rfl) ?_
    refine gg_iadd X 97 d_M_taken_97 ?_
    refine gg_icmp_ne X 98 111 d_M_taken_98 rfl (fun _ => ?_) (fun _ => ?_)
    · exact t_M_taken_111 X s5 _  (lv_sub hl [] rfl)
    · refine gg_aload_n X 101 d_M_taken_101 rfl (lv_at hl 0 rfl) ?_
      refine gg_iload X 102 d_M_taken_102 (lv_at hl 4 rfl) ?_
      refine gg_callV X 104 nwOk_M [.int a4] [] (fun _ _ h sz => M_M_kind l D dI ad _ a4  h sz) (cwV 1 X.1.2.2.2.2 (gwV w_440 w_442 ws_M_kind w_5 w_443) rfl rfl rfl (by decide +kernel) ⟨by decide, by decide⟩) (he_M_Main) rfl rfl hl.1 rfl (Nat.le_of_ble_eq_true rfl) ⟨Nat.zero_le _, Nat.zero_le _⟩ d_M_taken_104 (fun r7 s8 ho9 => ?_)
      refine gg_show_i ?_
      refine gg_iconst X 107 (1 : Int32) d_M_taken_107 (by decide) ?_
      refine gg_icmp_eq X 108 115 d_M_taken_108 rfl (fun _ => ?_) (fun _ => ?_)
      · refine gg_iconst X 115 (0 : Int32) d_M_taken_115 (by decide) ?_
        exact gg_zretk X 116 rfl d_M_taken_116
      · exact t_M_taken_111 X s8 _  (lv_sub hl [] rfl)
  refine gg_eqc (fun h10 => ?_) (fun h10 => ?_)
  · refine gg_tin X 1 117 d_M_taken_1 h10 (by decide) (by decide) rfl rfl ?_
    refine gg_aload_n X 117 d_M_taken_117 rfl (lv_at hl 0 rfl) ?_
    refine gg_iload_n X 118 d_M_taken_118 rfl (lv_at hl 3 rfl) ?_
    refine gg_bipush X 119 (16 : Int32) d_M_taken_119 (by decide) ?_
    refine gg_idivk X 121 d_M_taken_121 (by decide) ?_
    refine gg_callV X 122 nwOk_M [.int (a3 / (16 : Int32))] [] (fun _ _ h sz => M_M_kind l D dI ad _ (a3 / (16 : Int32))  h sz) (cwV 1 X.1.2.2.2.2 (gwV w_440 w_442 ws_M_kind w_5 w_443) rfl rfl rfl (by decide +kernel) ⟨by decide, by decide⟩) (he_M_Main) rfl rfl hl.1 rfl (Nat.le_of_ble_eq_true rfl) ⟨Nat.zero_le _, Nat.zero_le _⟩ d_M_taken_122 (fun r11 s12 ho13 => ?_)
    refine gg_show_i ?_
    refine gg_iconst X 125 (2 : Int32) d_M_taken_125 (by decide) ?_
    refine gg_iload_n X 126 d_M_taken_126 rfl (lv_at hl 2 rfl) ?_
    refine gg_iadd X 127 d_M_taken_127 ?_
    refine gg_icmp_eq X 128 135 d_M_taken_128 rfl (fun _ => ?_) (fun _ => ?_)
    · refine gg_iconst X 135 (0 : Int32) d_M_taken_135 (by decide) ?_
      exact gg_zretk X 136 rfl d_M_taken_136
    · refine gg_iconst X 131 (1 : Int32) d_M_taken_131 (by decide) ?_
      refine gg_goto X 132 136 d_M_taken_132 rfl ?_
      exact gg_zretk X 136 rfl d_M_taken_136
  refine gg_eqc (fun h14 => ?_) (fun h14 => ?_)
  · refine gg_tin X 1 181 d_M_taken_1 h14 (by decide) (by decide) rfl rfl ?_
    refine gg_iconst X 181 (0 : Int32) d_M_taken_181 (by decide) ?_
    exact gg_zretk X 182 rfl d_M_taken_182
  refine gg_eqc (fun h15 => ?_) (fun h15 => ?_)
  · refine gg_tin X 1 137 d_M_taken_1 h15 (by decide) (by decide) rfl rfl ?_
    refine gg_aload_n X 137 d_M_taken_137 rfl (lv_at hl 0 rfl) ?_
    refine gg_iload_n X 138 d_M_taken_138 rfl (lv_at hl 3 rfl) ?_
    refine gg_callV X 139 nwOk_M [.int a3] [] (fun _ _ h sz => M_M_kind l D dI ad _ a3  h sz) (cwV 1 X.1.2.2.2.2 (gwV w_440 w_442 ws_M_kind w_5 w_443) rfl rfl rfl (by decide +kernel) ⟨by decide, by decide⟩) (he_M_Main) rfl rfl hl.1 rfl (Nat.le_of_ble_eq_true rfl) ⟨Nat.zero_le _, Nat.zero_le _⟩ d_M_taken_139 (fun r16 s17 ho18 => ?_)
    refine gg_show_i ?_
    refine gg_iconst X 142 (1 : Int32) d_M_taken_142 (by decide) ?_
    refine gg_icmp_eq X 143 150 d_M_taken_143 rfl (fun _ => ?_) (fun _ => ?_)
    · refine gg_iconst X 150 (0 : Int32) d_M_taken_150 (by decide) ?_
      exact gg_zretk X 151 rfl d_M_taken_151
    · refine gg_iconst X 146 (1 : Int32) d_M_taken_146 (by decide) ?_
      refine gg_goto X 147 151 d_M_taken_147 rfl ?_
      exact gg_zretk X 151 rfl d_M_taken_151
  refine gg_eqc (fun h19 => ?_) (fun h19 => ?_)
  · refine gg_tin X 1 181 d_M_taken_1 h19 (by decide) (by decide) rfl rfl ?_
    refine gg_iconst X 181 (0 : Int32) d_M_taken_181 (by decide) ?_
    exact gg_zretk X 182 rfl d_M_taken_182
  refine gg_eqc (fun h20 => ?_) (fun h20 => ?_)
  · refine gg_tin X 1 181 d_M_taken_1 h20 (by decide) (by decide) rfl rfl ?_
    refine gg_iconst X 181 (0 : Int32) d_M_taken_181 (by decide) ?_
    exact gg_zretk X 182 rfl d_M_taken_182
  refine gg_eqc (fun h21 => ?_) (fun h21 => ?_)
  · refine gg_tin X 1 181 d_M_taken_1 h21 (by decide) (by decide) rfl rfl ?_
    refine gg_iconst X 181 (0 : Int32) d_M_taken_181 (by decide) ?_
    exact gg_zretk X 182 rfl d_M_taken_182
  refine gg_eqc (fun h22 => ?_) (fun h22 => ?_)
  · refine gg_tin X 1 181 d_M_taken_1 h22 (by decide) (by decide) rfl rfl ?_
    refine gg_iconst X 181 (0 : Int32) d_M_taken_181 (by decide) ?_
    exact gg_zretk X 182 rfl d_M_taken_182
  refine gg_eqc (fun h23 => ?_) (fun h23 => ?_)
  · refine gg_tin X 1 152 d_M_taken_1 h23 (by decide) (by decide) rfl rfl ?_
    refine gg_aload_n X 152 d_M_taken_152 rfl (lv_at hl 0 rfl) ?_
    refine gg_iload_n X 153 d_M_taken_153 rfl (lv_at hl 2 rfl) ?_
    refine gg_callV X 154 nwOk_M [.int a2] [] (fun _ _ h sz => M_M_kind l D dI ad _ a2  h sz) (cwV 1 X.1.2.2.2.2 (gwV w_440 w_442 ws_M_kind w_5 w_443) rfl rfl rfl (by decide +kernel) ⟨by decide, by decide⟩) (he_M_Main) rfl rfl hl.1 rfl (Nat.le_of_ble_eq_true rfl) ⟨Nat.zero_le _, Nat.zero_le _⟩ d_M_taken_154 (fun r24 s25 ho26 => ?_)
    refine gg_show_i ?_
    refine gg_if_eq X 157 164 d_M_taken_157 rfl (fun _ => ?_) (fun _ => ?_)
    · refine gg_iconst X 164 (0 : Int32) d_M_taken_164 (by decide) ?_
      exact gg_zretk X 165 rfl d_M_taken_165
    · refine gg_iconst X 160 (1 : Int32) d_M_taken_160 (by decide) ?_
      refine gg_goto X 161 165 d_M_taken_161 rfl ?_
      exact gg_zretk X 165 rfl d_M_taken_165
  refine gg_eqc (fun h27 => ?_) (fun h27 => ?_)
  · refine gg_tin X 1 166 d_M_taken_1 h27 (by decide) (by decide) rfl rfl ?_
    refine gg_aload_n X 166 d_M_taken_166 rfl (lv_at hl 0 rfl) ?_
    refine gg_iload_n X 167 d_M_taken_167 rfl (lv_at hl 2 rfl) ?_
    refine gg_callV X 168 nwOk_M [.int a2] [] (fun _ _ h sz => M_M_kind l D dI ad _ a2  h sz) (cwV 1 X.1.2.2.2.2 (gwV w_440 w_442 ws_M_kind w_5 w_443) rfl rfl rfl (by decide +kernel) ⟨by decide, by decide⟩) (he_M_Main) rfl rfl hl.1 rfl (Nat.le_of_ble_eq_true rfl) ⟨Nat.zero_le _, Nat.zero_le _⟩ d_M_taken_168 (fun r28 s29 ho30 => ?_)
    refine gg_show_i ?_
    refine gg_iconst X 171 (1 : Int32) d_M_taken_171 (by decide) ?_
    refine gg_icmp_eq X 172 179 d_M_taken_172 rfl (fun _ => ?_) (fun _ => ?_)
    · refine gg_iconst X 179 (0 : Int32) d_M_taken_179 (by decide) ?_
      exact gg_zretk X 180 rfl d_M_taken_180
    · refine gg_iconst X 175 (1 : Int32) d_M_taken_175 (by decide) ?_
      refine gg_goto X 176 180 d_M_taken_176 rfl ?_
      exact gg_zretk X 180 rfl d_M_taken_180
  refine gg_tout X 1 181 d_M_taken_1 (by have q0 := lv_neT (a := 1) h1 (by decide); have q1 := lv_neT (a := 2) h3 (by decide); have q2 := lv_neT (a := 3) h10 (by decide); have q3 := lv_neT (a := 4) h14 (by decide); have q4 := lv_neT (a := 5) h15 (by decide); have q5 := lv_neT (a := 6) h19 (by decide); have q6 := lv_neT (a := 7) h20 (by decide); have q7 := lv_neT (a := 8) h21 (by decide); have q8 := lv_neT (a := 9) h22 (by decide); have q9 := lv_neT (a := 10) h23 (by decide); have q10 := lv_neT (a := 11) h27 (by decide); omega) rfl ?_
  refine gg_iconst X 181 (0 : Int32) d_M_taken_181 (by decide) ?_
  exact gg_zretk X 182 rfl d_M_taken_182
theorem M_M_taken (l : Launch) (D : va_G) (dI : Nat → ClassId) (ad : Nat → Nat) (s : eS) (a1 : Int32) (a2 : Int32) (a3 : Int32) (a4 : Int32)  {r : Int32} {s' : eS} (h : f_M_taken a1 a2 a3 a4 s = some (r, s')) (sz : Nat) : Met l y_M_taken (Cond.code y_M_taken prog_6_method_11_code 6 (some .boolean) :: WS) rm_M_taken (Px (wM dI ad) D vwCl (tyM dI) [] sz s [.ref (ad 0), .int a1, .int a2, .int a3, .int a4]) (Qx rvI (wM dI ad) D vwCl (tyM dI) (va_A ((wM dI ad) s) sz) r s') 0 0 (va_A ((wM dI ad) s) sz) :=
  met_of [.ref (ad 0), .int a1, .int a2, .int a3, .int a4] (by decide) rfl rfl (Nat.le_of_ble_eq_true rfl) h (fun p e s0 m args below meth c A ls X hl => t_M_taken X a1 a2 a3 a4 s ls  hl)
set_option maxHeartbeats 4000000 in
set_option maxRecDepth 100000 in
theorem t_M_full_130 {p : Program} {l : Launch} {e : Env} {s0 : State} {m : MethodId} {args : Array Value} {below : List Frame} {meth : Method} {c : Code} {D : va_G} {A : Nat → Prop} {dI : Nat → ClassId} {ad : Nat → Nat} (X : CX p s0 m args meth c D vwCl (tyM dI) [] A prog_6_method_12_code 5 (some .boolean) (Cond.code y_M_full prog_6_method_12_code 5 (some .boolean) :: WS) R_M)  (s : eS) (ls : Array Slot)  (hl : lv_has ls 5 []) : GG p l e rm_M_full s0 m args below meth c D vwCl (tyM dI) A (wM dI ad) 0 0 (QM below args s0 D vwCl (tyM dI) A (wM dI ad) rvI) (f_M_full_130 s) (F0 m 130 ls []) s := by
  unfold f_M_full_130
  refine gg_iconst X 130 (0 : Int32) d_M_full_130 (by decide) ?_
  exact gg_zretk X 131 rfl d_M_full_131
set_option maxHeartbeats 4000000 in
set_option maxRecDepth 100000 in
theorem t_M_full_126 {p : Program} {l : Launch} {e : Env} {s0 : State} {m : MethodId} {args : Array Value} {below : List Frame} {meth : Method} {c : Code} {D : va_G} {A : Nat → Prop} {dI : Nat → ClassId} {ad : Nat → Nat} (X : CX p s0 m args meth c D vwCl (tyM dI) [] A prog_6_method_12_code 5 (some .boolean) (Cond.code y_M_full prog_6_method_12_code 5 (some .boolean) :: WS) R_M)  (s : eS) (ls : Array Slot)  (hl : lv_has ls 5 []) : GG p l e rm_M_full s0 m args below meth c D vwCl (tyM dI) A (wM dI ad) 0 0 (QM below args s0 D vwCl (tyM dI) A (wM dI ad) rvI) (f_M_full_126 s) (F0 m 126 ls []) s := by
  unfold f_M_full_126
  refine gg_iconst X 126 (1 : Int32) d_M_full_126 (by decide) ?_
  refine gg_goto X 127 131 d_M_full_127 rfl ?_
  exact gg_zretk X 131 rfl d_M_full_131
set_option maxHeartbeats 4000000 in
set_option maxRecDepth 100000 in
theorem t_M_full_108 {p : Program} {l : Launch} {e : Env} {s0 : State} {m : MethodId} {args : Array Value} {below : List Frame} {meth : Method} {c : Code} {D : va_G} {A : Nat → Prop} {dI : Nat → ClassId} {ad : Nat → Nat} (X : CX p s0 m args meth c D vwCl (tyM dI) [] A prog_6_method_12_code 5 (some .boolean) (Cond.code y_M_full prog_6_method_12_code 5 (some .boolean) :: WS) R_M) (x1 : Int32) (x2 : Int32) (s : eS) (ls : Array Slot)  (hl : lv_has ls 5 [(0, .ref (ad 0)), (1, .int x1), (2, .int x2)]) : GG p l e rm_M_full s0 m args below meth c D vwCl (tyM dI) A (wM dI ad) 0 0 (QM below args s0 D vwCl (tyM dI) A (wM dI ad) rvI) (f_M_full_108 x1 x2 s) (F0 m 108 ls []) s := by
  unfold f_M_full_108
  refine gg_iload_n X 108 d_M_full_108 rfl (lv_at hl 1 rfl) ?_
  refine gg_iconst X 109 (3 : Int32) d_M_full_109 (by decide) ?_
  refine gg_icmp_ne X 110 130 d_M_full_110 rfl (fun _ => ?_) (fun _ => ?_)
  · exact t_M_full_130 X s _  (lv_sub hl [] rfl)
  · refine gg_aload_n X 113 d_M_full_113 rfl (lv_at hl 0 rfl) ?_
    refine gg_get_M_phase X 114 (Or.inl (List.mem_cons_of_mem _ w_368)) d_M_full_114 ?_
    refine gg_iconst X 117 (2 : Int32) d_M_full_117 (by decide) ?_
    refine gg_iload_n X 118 d_M_full_118 rfl (lv_at hl 2 rfl) ?_
    refine gg_imul X 119 d_M_full_119 ?_
    refine gg_iconst X 120 (1 : Int32) d_M_full_120 (by decide) ?_
    refine gg_iadd X 121 d_M_full_121 ?_
    refine gg_ald_A_phase X 122 d_M_full_122 ?_
    refine gg_if_le X 123 130 d_M_full_123 rfl (fun _ => ?_) (fun _ => ?_)
    · exact t_M_full_130 X s _  (lv_sub hl [] rfl)
    · exact t_M_full_126 X s _  (lv_sub hl [] rfl)
set_option maxHeartbeats 4000000 in
set_option maxRecDepth 100000 in
theorem t_M_full_48 {p : Program} {l : Launch} {e : Env} {s0 : State} {m : MethodId} {args : Array Value} {below : List Frame} {meth : Method} {c : Code} {D : va_G} {A : Nat → Prop} {dI : Nat → ClassId} {ad : Nat → Nat} (X : CX p s0 m args meth c D vwCl (tyM dI) [] A prog_6_method_12_code 5 (some .boolean) (Cond.code y_M_full prog_6_method_12_code 5 (some .boolean) :: WS) R_M) : ∀ (fl : Nat) (x2 : Int32) (x3 : Int32) (x4 : Int32) (s : eS) (ls : Array Slot), lv_has ls 5 [(0, .ref (ad 0)), (2, .int x2), (3, .int x3), (4, .int x4)] → GG p l e rm_M_full s0 m args below meth c D vwCl (tyM dI) A (wM dI ad) 0 0 (QM below args s0 D vwCl (tyM dI) A (wM dI ad) rvI) (f_M_full_48 fl x2 x3 x4 s) (F0 m 48 ls []) s := by
  intro fl
  induction fl with
  | zero =>
    intro x2 x3 x4 s ls hl
    rw [f_M_full_48]
    exact gg_none
  | succ fl ih =>
    intro x2 x3 x4 s ls hl
    rw [f_M_full_48]
    refine gg_iload X 48 d_M_full_48 (lv_at hl 3 rfl) ?_
    refine gg_bipush X 50 (16 : Int32) d_M_full_50 (by decide) ?_
    refine gg_icmp_ge X 52 81 d_M_full_52 rfl (fun _ => ?_) (fun _ => ?_)
    · refine gg_iload_n X 81 d_M_full_81 rfl (lv_at hl 2 rfl) ?_
      refine gg_iconst X 82 (2 : Int32) d_M_full_82 (by decide) ?_
      refine gg_icmp_lt X 83 90 d_M_full_83 rfl (fun _ => ?_) (fun _ => ?_)
      · refine gg_iconst X 90 (0 : Int32) d_M_full_90 (by decide) ?_
        exact gg_zretk X 91 rfl d_M_full_91
      · refine gg_iconst X 86 (1 : Int32) d_M_full_86 (by decide) ?_
        refine gg_goto X 87 91 d_M_full_87 rfl ?_
        exact gg_zretk X 91 rfl d_M_full_91
    · refine gg_aload_n X 55 d_M_full_55 rfl (lv_at hl 0 rfl) ?_
      refine gg_iload X 56 d_M_full_56 (lv_at hl 3 rfl) ?_
      refine gg_callV X 58 nwOk_M [.int x4] [] (fun _ _ h sz => M_M_kind l D dI ad _ x4  h sz) (cwV 1 X.1.2.2.2.2 (gwV w_440 w_442 ws_M_kind w_5 w_443) rfl rfl rfl (by decide +kernel) ⟨by decide, by decide⟩) (he_M_Main) rfl rfl hl.1 rfl (Nat.le_of_ble_eq_true rfl) ⟨Nat.zero_le _, Nat.zero_le _⟩ d_M_full_58 (fun r1 s2 ho3 => ?_)
      refine gg_show_i ?_
      refine gg_iconst X 61 (5 : Int32) d_M_full_61 (by decide) ?_
      refine gg_iload_n X 62 d_M_full_62 rfl (lv_at hl 1 rfl) ?_
      refine gg_iadd X 63 d_M_full_63 ?_
      refine gg_icmp_ne X 64 73 d_M_full_64 rfl (fun _ => ?_) (fun _ => ?_)
      · refine gg_iload_n X 73 d_M_full_73 rfl (lv_at hl 2 rfl) ?_
        refine gg_istore_n X 74 (fun v4 => [(3, .int v4), (0, .ref (ad 0)), (2, .int x2), (4, .int x4)]) d_M_full_74 rfl hl (by decide) (fun _ => rfl) (fun v4 ls hl => ?_)
        refine gg_iinc X 75 (k := 3) (1 : Int32) (fun v5 => [(4, .int v5), (3, .int v4), (0, .ref (ad 0)), (2, .int x2)]) d_M_full_75 hl rfl (by decide) (by decide) (fun _ => rfl) (fun v5 ls hl => ?_)
        refine gg_goto X 78 48 d_M_full_78 rfl ?_
        exact ih x2 v4 v5 s2 _  (lv_sub hl [2, 3, 1, 0] rfl)
      · refine gg_iload_n X 67 d_M_full_67 rfl (lv_at hl 2 rfl) ?_
        refine gg_iconst X 68 (1 : Int32) d_M_full_68 (by decide) ?_
        refine gg_iadd X 69 d_M_full_69 ?_
        refine gg_goto X 70 74 d_M_full_70 rfl ?_
        refine gg_istore_n X 74 (fun v6 => [(3, .int v6), (0, .ref (ad 0)), (2, .int x2), (4, .int x4)]) d_M_full_74 rfl hl (by decide) (fun _ => rfl) (fun v6 ls hl => ?_)
        refine gg_iinc X 75 (k := 3) (1 : Int32) (fun v7 => [(4, .int v7), (3, .int v6), (0, .ref (ad 0)), (2, .int x2)]) d_M_full_75 hl rfl (by decide) (by decide) (fun _ => rfl) (fun v7 ls hl => ?_)
        refine gg_goto X 78 48 d_M_full_78 rfl ?_
        exact ih x2 v6 v7 s2 _  (lv_sub hl [2, 3, 1, 0] rfl)
set_option maxHeartbeats 4000000 in
set_option maxRecDepth 100000 in
theorem t_M_full_36 {p : Program} {l : Launch} {e : Env} {s0 : State} {m : MethodId} {args : Array Value} {below : List Frame} {meth : Method} {c : Code} {D : va_G} {A : Nat → Prop} {dI : Nat → ClassId} {ad : Nat → Nat} (X : CX p s0 m args meth c D vwCl (tyM dI) [] A prog_6_method_12_code 5 (some .boolean) (Cond.code y_M_full prog_6_method_12_code 5 (some .boolean) :: WS) R_M)  (s : eS) (ls : Array Slot)  (hl : lv_has ls 5 []) : GG p l e rm_M_full s0 m args below meth c D vwCl (tyM dI) A (wM dI ad) 0 0 (QM below args s0 D vwCl (tyM dI) A (wM dI ad) rvI) (f_M_full_36 s) (F0 m 36 ls []) s := by
  unfold f_M_full_36
  refine gg_iconst X 36 (0 : Int32) d_M_full_36 (by decide) ?_
  exact gg_zretk X 37 rfl d_M_full_37
set_option maxHeartbeats 4000000 in
set_option maxRecDepth 100000 in
theorem t_M_full {p : Program} {l : Launch} {e : Env} {s0 : State} {m : MethodId} {args : Array Value} {below : List Frame} {meth : Method} {c : Code} {D : va_G} {A : Nat → Prop} {dI : Nat → ClassId} {ad : Nat → Nat} (X : CX p s0 m args meth c D vwCl (tyM dI) [] A prog_6_method_12_code 5 (some .boolean) (Cond.code y_M_full prog_6_method_12_code 5 (some .boolean) :: WS) R_M) (a1 : Int32) (a2 : Int32) (s : eS) (ls : Array Slot)  (hl : lv_has ls 5 [(0, .ref (ad 0)), (1, .int a1), (2, .int a2)]) : GG p l e rm_M_full s0 m args below meth c D vwCl (tyM dI) A (wM dI ad) 0 0 (QM below args s0 D vwCl (tyM dI) A (wM dI ad) rvI) (f_M_full a1 a2 s) (F0 m 0 ls []) s := by
  unfold f_M_full
  refine gg_iload_n X 0 d_M_full_0 rfl (lv_at hl 1 rfl) ?_
  refine gg_iconst X 1 (1 : Int32) d_M_full_1 (by decide) ?_
  refine gg_icmp_ne X 2 38 d_M_full_2 rfl (fun _ => ?_) (fun _ => ?_)
  · refine gg_iload_n X 38 d_M_full_38 rfl (lv_at hl 1 rfl) ?_
    refine gg_iconst X 39 (5 : Int32) d_M_full_39 (by decide) ?_
    refine gg_icmp_ne X 40 92 d_M_full_40 rfl (fun _ => ?_) (fun _ => ?_)
    · refine gg_iload_n X 92 d_M_full_92 rfl (lv_at hl 1 rfl) ?_
      refine gg_iconst X 93 (2 : Int32) d_M_full_93 (by decide) ?_
      refine gg_icmp_ne X 94 108 d_M_full_94 rfl (fun _ => ?_) (fun _ => ?_)
      · exact t_M_full_108 X a1 a2 s _  (lv_sub hl [0, 1, 2] rfl)
      · refine gg_aload_n X 97 d_M_full_97 rfl (lv_at hl 0 rfl) ?_
        refine gg_get_M_loads X 98 (Or.inl (List.mem_cons_of_mem _ w_365)) d_M_full_98 ?_
        refine gg_iload_n X 101 d_M_full_101 rfl (lv_at hl 2 rfl) ?_
        refine gg_ald_A_loads X 102 d_M_full_102 ?_
        refine gg_bipush X 103 (8 : Int32) d_M_full_103 (by decide) ?_
        refine gg_icmp_ge X 105 126 d_M_full_105 rfl (fun _ => ?_) (fun _ => ?_)
        · exact t_M_full_126 X s _  (lv_sub hl [] rfl)
        · exact t_M_full_108 X a1 a2 s _  (lv_sub hl [0, 1, 2] rfl)
    · refine gg_iconst X 43 (0 : Int32) d_M_full_43 (by decide) ?_
      refine gg_istore_n X 44 (fun v1 => [(3, .int v1), (0, .ref (ad 0)), (1, .int a1), (2, .int a2)]) d_M_full_44 rfl hl (by decide) (fun _ => rfl) (fun v1 ls hl => ?_)
      refine gg_iconst X 45 (0 : Int32) d_M_full_45 (by decide) ?_
      refine gg_istore X 46 (fun v2 => [(4, .int v2), (3, .int v1), (0, .ref (ad 0)), (1, .int a1), (2, .int a2)]) d_M_full_46 hl (by decide) (fun _ => rfl) (fun v2 ls hl => ?_)
      exact t_M_full_48 X fu a2 v1 v2 s _  (lv_sub hl [2, 4, 1, 0] rfl)
  · refine gg_aload_n X 5 d_M_full_5 rfl (lv_at hl 0 rfl) ?_
    refine gg_get_M_stateOf X 6 (Or.inl (List.mem_cons_of_mem _ w_362)) d_M_full_6 ?_
    refine gg_iconst X 9 (0 : Int32) d_M_full_9 (by decide) ?_
    refine gg_ald_A_stateOf X 10 d_M_full_10 ?_
    refine gg_if_le X 11 36 d_M_full_11 rfl (fun _ => ?_) (fun _ => ?_)
    · exact t_M_full_36 X s _  (lv_sub hl [] rfl)
    · refine gg_aload_n X 14 d_M_full_14 rfl (lv_at hl 0 rfl) ?_
      refine gg_get_M_stateOf X 15 (Or.inl (List.mem_cons_of_mem _ w_362)) d_M_full_15 ?_
      refine gg_iconst X 18 (1 : Int32) d_M_full_18 (by decide) ?_
      refine gg_ald_A_stateOf X 19 d_M_full_19 ?_
      refine gg_if_le X 20 36 d_M_full_20 rfl (fun _ => ?_) (fun _ => ?_)
      · exact t_M_full_36 X s _  (lv_sub hl [] rfl)
      · refine gg_aload_n X 23 d_M_full_23 rfl (lv_at hl 0 rfl) ?_
        refine gg_get_M_stateOf X 24 (Or.inl (List.mem_cons_of_mem _ w_362)) d_M_full_24 ?_
        refine gg_iconst X 27 (2 : Int32) d_M_full_27 (by decide) ?_
        refine gg_ald_A_stateOf X 28 d_M_full_28 ?_
        refine gg_if_le X 29 36 d_M_full_29 rfl (fun _ => ?_) (fun _ => ?_)
        · exact t_M_full_36 X s _  (lv_sub hl [] rfl)
        · refine gg_iconst X 32 (1 : Int32) d_M_full_32 (by decide) ?_
          refine gg_goto X 33 37 d_M_full_33 rfl ?_
          exact gg_zretk X 37 rfl d_M_full_37
theorem M_M_full (l : Launch) (D : va_G) (dI : Nat → ClassId) (ad : Nat → Nat) (s : eS) (a1 : Int32) (a2 : Int32)  {r : Int32} {s' : eS} (h : f_M_full a1 a2 s = some (r, s')) (sz : Nat) : Met l y_M_full (Cond.code y_M_full prog_6_method_12_code 5 (some .boolean) :: WS) rm_M_full (Px (wM dI ad) D vwCl (tyM dI) [] sz s [.ref (ad 0), .int a1, .int a2]) (Qx rvI (wM dI ad) D vwCl (tyM dI) (va_A ((wM dI ad) s) sz) r s') 0 0 (va_A ((wM dI ad) s) sz) :=
  met_of [.ref (ad 0), .int a1, .int a2] (by decide) rfl rfl (Nat.le_of_ble_eq_true rfl) h (fun p e s0 m args below meth c A ls X hl => t_M_full X a1 a2 s ls  hl)
set_option maxHeartbeats 4000000 in
set_option maxRecDepth 100000 in
theorem t_M_create_27 {p : Program} {l : Launch} {e : Env} {s0 : State} {m : MethodId} {args : Array Value} {below : List Frame} {meth : Method} {c : Code} {D : va_G} {A : Nat → Prop} {dI : Nat → ClassId} {ad : Nat → Nat} (X : CX p s0 m args meth c D vwCl (tyM dI) [] A prog_6_method_14_code 4 (some .int) (Cond.code y_M_create prog_6_method_14_code 4 (some .int) :: WS) R_M) (x1 : Int32) (x2 : Int32) (y0 : Int32) (s : eS) (ls : Array Slot)  (hl : lv_has ls 4 [(0, .ref (ad 0)), (1, .int x1), (2, .int x2)]) : GG p l e rm_M_create s0 m args below meth c D vwCl (tyM dI) A (wM dI ad) 0 0 (QM below args s0 D vwCl (tyM dI) A (wM dI ad) rvI) (f_M_create_27 x1 x2 y0 s) (F0 m 27 ls [.int y0]) s := by
  unfold f_M_create_27
  refine gg_istore_n X 27 (fun v1 => [(3, .int v1), (0, .ref (ad 0)), (1, .int x1), (2, .int x2)]) d_M_create_27 rfl hl (by decide) (fun _ => rfl) (fun v1 ls hl => ?_)
  refine gg_aload_n X 28 d_M_create_28 rfl (lv_at hl 1 rfl) ?_
  refine gg_get_M_stateOf X 29 (Or.inl (List.mem_cons_of_mem _ w_362)) d_M_create_29 ?_
  refine gg_iload_n X 32 d_M_create_32 rfl (lv_at hl 0 rfl) ?_
  refine gg_iconst X 33 (1 : Int32) d_M_create_33 (by decide) ?_
  refine gg_ast_A_stateOf X 34 d_M_create_34 (fun s2 => ?_)
  refine gg_aload_n X 35 d_M_create_35 rfl (lv_at hl 1 rfl) ?_
  refine gg_get_M_from X 36 (Or.inl (List.mem_cons_of_mem _ w_363)) d_M_create_36 ?_
  refine gg_iload_n X 39 d_M_create_39 rfl (lv_at hl 0 rfl) ?_
  refine gg_iload_n X 40 d_M_create_40 rfl (lv_at hl 2 rfl) ?_
  refine gg_ast_A_from X 41 d_M_create_41 (fun s3 => ?_)
  refine gg_aload_n X 42 d_M_create_42 rfl (lv_at hl 1 rfl) ?_
  refine gg_get_M_size X 43 (Or.inl (List.mem_cons_of_mem _ w_364)) d_M_create_43 ?_
  refine gg_iload_n X 46 d_M_create_46 rfl (lv_at hl 0 rfl) ?_
  refine gg_iload_n X 47 d_M_create_47 rfl (lv_at hl 3 rfl) ?_
  refine gg_ast_A_size X 48 d_M_create_48 (fun s4 => ?_)
  refine gg_aload_n X 49 d_M_create_49 rfl (lv_at hl 1 rfl) ?_
  refine gg_get_M_loads X 50 (Or.inl (List.mem_cons_of_mem _ w_365)) d_M_create_50 ?_
  refine gg_iload_n X 53 d_M_create_53 rfl (lv_at hl 0 rfl) ?_
  refine gg_iconst X 54 (0 : Int32) d_M_create_54 (by decide) ?_
  refine gg_ast_A_loads X 55 d_M_create_55 (fun s5 => ?_)
  refine gg_aload_n X 56 d_M_create_56 rfl (lv_at hl 1 rfl) ?_
  refine gg_get_M_count X 57 (Or.inl (List.mem_cons_of_mem _ w_367)) d_M_create_57 ?_
  refine gg_iload_n X 60 d_M_create_60 rfl (lv_at hl 0 rfl) ?_
  refine gg_iconst X 61 (0 : Int32) d_M_create_61 (by decide) ?_
  refine gg_ast_A_count X 62 d_M_create_62 (fun s6 => ?_)
  refine gg_aload_n X 63 d_M_create_63 rfl (lv_at hl 1 rfl) ?_
  refine gg_iload_n X 64 d_M_create_64 rfl (lv_at hl 0 rfl) ?_
  refine gg_iconst X 65 (1 : Int32) d_M_create_65 (by decide) ?_
  refine gg_callV X 66 nwOk_M [.int v1, .int (1 : Int32)] [] (fun _ _ h sz => M_M_add l D dI ad _ v1 (1 : Int32)  h sz) (cwV 2 X.1.2.2.2.2 (gwV w_499 w_501 ws_M_add w_5 w_502) rfl rfl rfl (by decide +kernel) ⟨by decide, by decide⟩) (he_M_Main) rfl rfl hl.1 rfl (Nat.le_of_ble_eq_true rfl) ⟨Nat.zero_le _, Nat.zero_le _⟩ d_M_create_66 (fun r7 s8 ho9 => ?_)
  refine gg_show_v ?_
  refine gg_aload_n X 69 d_M_create_69 rfl (lv_at hl 1 rfl) ?_
  refine gg_iload_n X 70 d_M_create_70 rfl (lv_at hl 0 rfl) ?_
  refine gg_iload_n X 71 d_M_create_71 rfl (lv_at hl 2 rfl) ?_
  refine gg_callV X 72 nwOk_M [.int v1, .int x1] [] (fun _ _ h sz => M_M_add l D dI ad _ v1 x1  h sz) (cwV 2 X.1.2.2.2.2 (gwV w_499 w_501 ws_M_add w_5 w_502) rfl rfl rfl (by decide +kernel) ⟨by decide, by decide⟩) (he_M_Main) rfl rfl hl.1 rfl (Nat.le_of_ble_eq_true rfl) ⟨Nat.zero_le _, Nat.zero_le _⟩ d_M_create_72 (fun r10 s11 ho12 => ?_)
  refine gg_show_v ?_
  refine gg_aload_n X 75 d_M_create_75 rfl (lv_at hl 1 rfl) ?_
  refine gg_iload_n X 76 d_M_create_76 rfl (lv_at hl 0 rfl) ?_
  refine gg_iload_n X 77 d_M_create_77 rfl (lv_at hl 3 rfl) ?_
  refine gg_callV X 78 nwOk_M [.int v1, .int x2] [] (fun _ _ h sz => M_M_add l D dI ad _ v1 x2  h sz) (cwV 2 X.1.2.2.2.2 (gwV w_499 w_501 ws_M_add w_5 w_502) rfl rfl rfl (by decide +kernel) ⟨by decide, by decide⟩) (he_M_Main) rfl rfl hl.1 rfl (Nat.le_of_ble_eq_true rfl) ⟨Nat.zero_le _, Nat.zero_le _⟩ d_M_create_78 (fun r13 s14 ho15 => ?_)
  refine gg_show_v ?_
  refine gg_iload_n X 81 d_M_create_81 rfl (lv_at hl 0 rfl) ?_
  exact gg_iret X 82 d_M_create_82
set_option maxHeartbeats 4000000 in
set_option maxRecDepth 100000 in
theorem t_M_create {p : Program} {l : Launch} {e : Env} {s0 : State} {m : MethodId} {args : Array Value} {below : List Frame} {meth : Method} {c : Code} {D : va_G} {A : Nat → Prop} {dI : Nat → ClassId} {ad : Nat → Nat} (X : CX p s0 m args meth c D vwCl (tyM dI) [] A prog_6_method_14_code 4 (some .int) (Cond.code y_M_create prog_6_method_14_code 4 (some .int) :: WS) R_M) (a1 : Int32) (a2 : Int32) (s : eS) (ls : Array Slot)  (hl : lv_has ls 4 [(0, .ref (ad 0)), (1, .int a1), (2, .int a2)]) : GG p l e rm_M_create s0 m args below meth c D vwCl (tyM dI) A (wM dI ad) 0 0 (QM below args s0 D vwCl (tyM dI) A (wM dI ad) rvI) (f_M_create a1 a2 s) (F0 m 0 ls []) s := by
  unfold f_M_create
  refine gg_aload_n X 0 d_M_create_0 rfl (lv_at hl 0 rfl) ?_
  refine gg_get_M_stateOf X 1 (Or.inl (List.mem_cons_of_mem _ w_362)) d_M_create_1 ?_
  refine gg_iconst X 4 (0 : Int32) d_M_create_4 (by decide) ?_
  refine gg_ald_A_stateOf X 5 d_M_create_5 ?_
  refine gg_if_ne X 6 13 d_M_create_6 rfl (fun _ => ?_) (fun _ => ?_)
  · refine gg_aload_n X 13 d_M_create_13 rfl (lv_at hl 0 rfl) ?_
    refine gg_get_M_stateOf X 14 (Or.inl (List.mem_cons_of_mem _ w_362)) d_M_create_14 ?_
    refine gg_iconst X 17 (1 : Int32) d_M_create_17 (by decide) ?_
    refine gg_ald_A_stateOf X 18 d_M_create_18 ?_
    refine gg_if_ne X 19 26 d_M_create_19 rfl (fun _ => ?_) (fun _ => ?_)
    · refine gg_iconst X 26 (2 : Int32) d_M_create_26 (by decide) ?_
      exact t_M_create_27 X a1 a2 (2 : Int32) s _  (lv_sub hl [0, 1, 2] rfl)
    · refine gg_iconst X 22 (1 : Int32) d_M_create_22 (by decide) ?_
      refine gg_goto X 23 27 d_M_create_23 rfl ?_
      exact t_M_create_27 X a1 a2 (1 : Int32) s _  (lv_sub hl [0, 1, 2] rfl)
  · refine gg_iconst X 9 (0 : Int32) d_M_create_9 (by decide) ?_
    refine gg_goto X 10 27 d_M_create_10 rfl ?_
    exact t_M_create_27 X a1 a2 (0 : Int32) s _  (lv_sub hl [0, 1, 2] rfl)
theorem M_M_create (l : Launch) (D : va_G) (dI : Nat → ClassId) (ad : Nat → Nat) (s : eS) (a1 : Int32) (a2 : Int32)  {r : Int32} {s' : eS} (h : f_M_create a1 a2 s = some (r, s')) (sz : Nat) : Met l y_M_create (Cond.code y_M_create prog_6_method_14_code 4 (some .int) :: WS) rm_M_create (Px (wM dI ad) D vwCl (tyM dI) [] sz s [.ref (ad 0), .int a1, .int a2]) (Qx rvI (wM dI ad) D vwCl (tyM dI) (va_A ((wM dI ad) s) sz) r s') 0 0 (va_A ((wM dI ad) s) sz) :=
  met_of [.ref (ad 0), .int a1, .int a2] (by decide) rfl rfl (Nat.le_of_ble_eq_true rfl) h (fun p e s0 m args below meth c A ls X hl => t_M_create X a1 a2 s ls  hl)
set_option maxHeartbeats 4000000 in
set_option maxRecDepth 100000 in
theorem t_M_thread_16 {p : Program} {l : Launch} {e : Env} {s0 : State} {m : MethodId} {args : Array Value} {below : List Frame} {meth : Method} {c : Code} {D : va_G} {A : Nat → Prop} {dI : Nat → ClassId} {ad : Nat → Nat} (X : CX p s0 m args meth c D vwCl (tyM dI) [] A prog_6_method_41_code 3 (some .int) (Cond.code y_M_thread prog_6_method_41_code 3 (some .int) :: WS) R_M)  (s : eS) (ls : Array Slot)  (hl : lv_has ls 3 []) : GG p l e rm_M_thread s0 m args below meth c D vwCl (tyM dI) A (wM dI ad) 0 0 (QM below args s0 D vwCl (tyM dI) A (wM dI ad) rvI) (f_M_thread_16 s) (F0 m 16 ls []) s := by
  unfold f_M_thread_16
  refine gg_iconst X 16 (0 : Int32) d_M_thread_16 (by decide) ?_
  refine gg_goto X 17 30 d_M_thread_17 rfl ?_
  exact gg_iret X 30 d_M_thread_30
set_option maxHeartbeats 4000000 in
set_option maxRecDepth 100000 in
theorem t_M_thread {p : Program} {l : Launch} {e : Env} {s0 : State} {m : MethodId} {args : Array Value} {below : List Frame} {meth : Method} {c : Code} {D : va_G} {A : Nat → Prop} {dI : Nat → ClassId} {ad : Nat → Nat} (X : CX p s0 m args meth c D vwCl (tyM dI) [] A prog_6_method_41_code 3 (some .int) (Cond.code y_M_thread prog_6_method_41_code 3 (some .int) :: WS) R_M) (a1 : Int32) (a2 : Int32) (s : eS) (ls : Array Slot)  (hl : lv_has ls 3 [(0, .ref (ad 0)), (1, .int a1), (2, .int a2)]) : GG p l e rm_M_thread s0 m args below meth c D vwCl (tyM dI) A (wM dI ad) 0 0 (QM below args s0 D vwCl (tyM dI) A (wM dI ad) rvI) (f_M_thread a1 a2 s) (F0 m 0 ls []) s := by
  unfold f_M_thread
  refine gg_iload_n X 0 d_M_thread_0 rfl (lv_at hl 1 rfl) ?_
  refine gg_iconst X 1 (2 : Int32) d_M_thread_1 (by decide) ?_
  refine gg_callS X 2 nwOk_M [.int a1, .int (2 : Int32)] [] (fun _ _ h sz => M_M_outside l D dI ad _ a1 (2 : Int32)  h sz) (cwS 2 X.1.2.2.2.2 (gwS w_437 w_438 w_5 w_439) rfl rfl rfl (by decide +kernel) ⟨by decide, by decide⟩) rfl hl.1 rfl (Nat.le_of_ble_eq_true rfl) ⟨Nat.zero_le _, Nat.zero_le _⟩ d_M_thread_2 (fun r1 s2 ho3 => ?_)
  refine gg_show_i ?_
  refine gg_if_ne X 5 16 d_M_thread_5 rfl (fun _ => ?_) (fun _ => ?_)
  · exact t_M_thread_16 X s2 _  (lv_sub hl [] rfl)
  · refine gg_iload_n X 8 d_M_thread_8 rfl (lv_at hl 2 rfl) ?_
    refine gg_iconst X 9 (1 : Int32) d_M_thread_9 (by decide) ?_
    refine gg_callS X 10 nwOk_M [.int a2, .int (1 : Int32)] [] (fun _ _ h sz => M_M_outside l D dI ad _ a2 (1 : Int32)  h sz) (cwS 2 X.1.2.2.2.2 (gwS w_437 w_438 w_5 w_439) rfl rfl rfl (by decide +kernel) ⟨by decide, by decide⟩) rfl hl.1 rfl (Nat.le_of_ble_eq_true rfl) ⟨Nat.zero_le _, Nat.zero_le _⟩ d_M_thread_10 (fun r4 s5 ho6 => ?_)
    refine gg_show_i ?_
    refine gg_if_eq X 13 20 d_M_thread_13 rfl (fun _ => ?_) (fun _ => ?_)
    · refine gg_aload_n X 20 d_M_thread_20 rfl (lv_at hl 0 rfl) ?_
      refine gg_get_M_phase X 21 (Or.inl (List.mem_cons_of_mem _ w_368)) d_M_thread_21 ?_
      refine gg_iconst X 24 (2 : Int32) d_M_thread_24 (by decide) ?_
      refine gg_iload_n X 25 d_M_thread_25 rfl (lv_at hl 1 rfl) ?_
      refine gg_imul X 26 d_M_thread_26 ?_
      refine gg_iload_n X 27 d_M_thread_27 rfl (lv_at hl 2 rfl) ?_
      refine gg_iadd X 28 d_M_thread_28 ?_
      refine gg_ald_A_phase X 29 d_M_thread_29 ?_
      exact gg_iret X 30 d_M_thread_30
    · exact t_M_thread_16 X s5 _  (lv_sub hl [] rfl)
theorem M_M_thread (l : Launch) (D : va_G) (dI : Nat → ClassId) (ad : Nat → Nat) (s : eS) (a1 : Int32) (a2 : Int32)  {r : Int32} {s' : eS} (h : f_M_thread a1 a2 s = some (r, s')) (sz : Nat) : Met l y_M_thread (Cond.code y_M_thread prog_6_method_41_code 3 (some .int) :: WS) rm_M_thread (Px (wM dI ad) D vwCl (tyM dI) [] sz s [.ref (ad 0), .int a1, .int a2]) (Qx rvI (wM dI ad) D vwCl (tyM dI) (va_A ((wM dI ad) s) sz) r s') 0 0 (va_A ((wM dI ad) s) sz) :=
  met_of [.ref (ad 0), .int a1, .int a2] (by decide) rfl rfl (Nat.le_of_ble_eq_true rfl) h (fun p e s0 m args below meth c A ls X hl => t_M_thread X a1 a2 s ls  hl)
set_option maxHeartbeats 4000000 in
set_option maxRecDepth 100000 in
theorem t_M_append {p : Program} {l : Launch} {e : Env} {s0 : State} {m : MethodId} {args : Array Value} {below : List Frame} {meth : Method} {c : Code} {D : va_G} {A : Nat → Prop} {dI : Nat → ClassId} {ad : Nat → Nat} (X : CX p s0 m args meth c D vwCl (tyM dI) [] A prog_6_method_15_code 4 (some .int) (Cond.code y_M_append prog_6_method_15_code 4 (some .int) :: WS) R_M) (a1 : Int32) (a2 : Int32) (a3 : Int32) (s : eS) (ls : Array Slot)  (hl : lv_has ls 4 [(0, .ref (ad 0)), (1, .int a1), (2, .int a2), (3, .int a3)]) : GG p l e rm_M_append s0 m args below meth c D vwCl (tyM dI) A (wM dI ad) 0 0 (QM below args s0 D vwCl (tyM dI) A (wM dI ad) rvI) (f_M_append a1 a2 a3 s) (F0 m 0 ls []) s := by
  unfold f_M_append
  refine gg_aload_n X 0 d_M_append_0 rfl (lv_at hl 0 rfl) ?_
  refine gg_get_M_phase X 1 (Or.inl (List.mem_cons_of_mem _ w_368)) d_M_append_1 ?_
  refine gg_iconst X 4 (2 : Int32) d_M_append_4 (by decide) ?_
  refine gg_iload_n X 5 d_M_append_5 rfl (lv_at hl 1 rfl) ?_
  refine gg_imul X 6 d_M_append_6 ?_
  refine gg_iload_n X 7 d_M_append_7 rfl (lv_at hl 2 rfl) ?_
  refine gg_iadd X 8 d_M_append_8 ?_
  refine gg_iconst X 9 (1 : Int32) d_M_append_9 (by decide) ?_
  refine gg_ast_A_phase X 10 d_M_append_10 (fun s1 => ?_)
  refine gg_aload_n X 11 d_M_append_11 rfl (lv_at hl 0 rfl) ?_
  refine gg_get_M_entry X 12 (Or.inl (List.mem_cons_of_mem _ w_369)) d_M_append_12 ?_
  refine gg_iconst X 15 (2 : Int32) d_M_append_15 (by decide) ?_
  refine gg_iload_n X 16 d_M_append_16 rfl (lv_at hl 1 rfl) ?_
  refine gg_imul X 17 d_M_append_17 ?_
  refine gg_iload_n X 18 d_M_append_18 rfl (lv_at hl 2 rfl) ?_
  refine gg_iadd X 19 d_M_append_19 ?_
  refine gg_iload_n X 20 d_M_append_20 rfl (lv_at hl 3 rfl) ?_
  refine gg_ast_A_entry X 21 d_M_append_21 (fun s2 => ?_)
  refine gg_aload_n X 22 d_M_append_22 rfl (lv_at hl 0 rfl) ?_
  refine gg_iload_n X 23 d_M_append_23 rfl (lv_at hl 1 rfl) ?_
  refine gg_iconst X 24 (3 : Int32) d_M_append_24 (by decide) ?_
  refine gg_callV X 25 nwOk_M [.int a1, .int (3 : Int32)] [] (fun _ _ h sz => M_M_add l D dI ad _ a1 (3 : Int32)  h sz) (cwV 2 X.1.2.2.2.2 (gwV w_499 w_501 ws_M_add w_5 w_502) rfl rfl rfl (by decide +kernel) ⟨by decide, by decide⟩) (he_M_Main) rfl rfl hl.1 rfl (Nat.le_of_ble_eq_true rfl) ⟨Nat.zero_le _, Nat.zero_le _⟩ d_M_append_25 (fun r3 s4 ho5 => ?_)
  refine gg_show_v ?_
  refine gg_aload_n X 28 d_M_append_28 rfl (lv_at hl 0 rfl) ?_
  refine gg_iload_n X 29 d_M_append_29 rfl (lv_at hl 1 rfl) ?_
  refine gg_iload_n X 30 d_M_append_30 rfl (lv_at hl 3 rfl) ?_
  refine gg_callV X 31 nwOk_M [.int a1, .int a3] [] (fun _ _ h sz => M_M_add l D dI ad _ a1 a3  h sz) (cwV 2 X.1.2.2.2.2 (gwV w_499 w_501 ws_M_add w_5 w_502) rfl rfl rfl (by decide +kernel) ⟨by decide, by decide⟩) (he_M_Main) rfl rfl hl.1 rfl (Nat.le_of_ble_eq_true rfl) ⟨Nat.zero_le _, Nat.zero_le _⟩ d_M_append_31 (fun r6 s7 ho8 => ?_)
  refine gg_show_v ?_
  refine gg_iload_n X 34 d_M_append_34 rfl (lv_at hl 2 rfl) ?_
  exact gg_iret X 35 d_M_append_35
theorem M_M_append (l : Launch) (D : va_G) (dI : Nat → ClassId) (ad : Nat → Nat) (s : eS) (a1 : Int32) (a2 : Int32) (a3 : Int32)  {r : Int32} {s' : eS} (h : f_M_append a1 a2 a3 s = some (r, s')) (sz : Nat) : Met l y_M_append (Cond.code y_M_append prog_6_method_15_code 4 (some .int) :: WS) rm_M_append (Px (wM dI ad) D vwCl (tyM dI) [] sz s [.ref (ad 0), .int a1, .int a2, .int a3]) (Qx rvI (wM dI ad) D vwCl (tyM dI) (va_A ((wM dI ad) s) sz) r s') 0 0 (va_A ((wM dI ad) s) sz) :=
  met_of [.ref (ad 0), .int a1, .int a2, .int a3] (by decide) rfl rfl (Nat.le_of_ble_eq_true rfl) h (fun p e s0 m args below meth c A ls X hl => t_M_append X a1 a2 a3 s ls  hl)
set_option maxHeartbeats 4000000 in
set_option maxRecDepth 100000 in
theorem t_M_load_25 {p : Program} {l : Launch} {e : Env} {s0 : State} {m : MethodId} {args : Array Value} {below : List Frame} {meth : Method} {c : Code} {D : va_G} {A : Nat → Prop} {dI : Nat → ClassId} {ad : Nat → Nat} (X : CX p s0 m args meth c D vwCl (tyM dI) [] A prog_6_method_17_code 5 none (Cond.code y_M_load prog_6_method_17_code 5 none :: WS) R_M) : ∀ (fl : Nat) (x1 : Int32) (x2 : Int32) (x3 : Int32) (x4 : Int32) (s : eS) (ls : Array Slot), lv_has ls 5 [(0, .ref (ad 0)), (1, .int x1), (2, .int x2), (3, .int x3), (4, .int x4)] → GG p l e rm_M_load s0 m args below meth c D vwCl (tyM dI) A (wM dI ad) 0 0 (QM below args s0 D vwCl (tyM dI) A (wM dI ad) rvV) (f_M_load_25 fl x1 x2 x3 x4 s) (F0 m 25 ls []) s := by
  intro fl
  induction fl with
  | zero =>
    intro x1 x2 x3 x4 s ls hl
    rw [f_M_load_25]
    exact gg_none
  | succ fl ih =>
    intro x1 x2 x3 x4 s ls hl
    rw [f_M_load_25]
    refine gg_iload X 25 d_M_load_25 (lv_at hl 4 rfl) ?_
    refine gg_bipush X 27 (16 : Int32) d_M_load_27 (by decide) ?_
    refine gg_icmp_ge X 29 79 d_M_load_29 rfl (fun _ => ?_) (fun _ => ?_)
    · exact gg_vret X 79 d_M_load_79
    · refine gg_aload_n X 32 d_M_load_32 rfl (lv_at hl 0 rfl) ?_
      refine gg_get_M_memory X 33 (Or.inl (List.mem_cons_of_mem _ w_359)) d_M_load_33 ?_
      refine gg_bipush X 36 (16 : Int32) d_M_load_36 (by decide) ?_
      refine gg_iload_n X 38 d_M_load_38 rfl (lv_at hl 2 rfl) ?_
      refine gg_imul X 39 d_M_load_39 ?_
      refine gg_iload X 40 d_M_load_40 (lv_at hl 4 rfl) ?_
      refine gg_iadd X 42 d_M_load_42 ?_
      refine gg_aload_n X 43 d_M_load_43 rfl (lv_at hl 0 rfl) ?_
      refine gg_get_M_memory X 44 (Or.inl (List.mem_cons_of_mem _ w_359)) d_M_load_44 ?_
      refine gg_bipush X 47 (16 : Int32) d_M_load_47 (by decide) ?_
      refine gg_iload_n X 49 d_M_load_49 rfl (lv_at hl 3 rfl) ?_
      refine gg_imul X 50 d_M_load_50 ?_
      refine gg_iload X 51 d_M_load_51 (lv_at hl 4 rfl) ?_
      refine gg_iadd X 53 d_M_load_53 ?_
      refine gg_ald_A_memory X 54 d_M_load_54 ?_
      refine gg_ast_A_memory X 55 d_M_load_55 (fun s1 => ?_)
      refine gg_aload_n X 56 d_M_load_56 rfl (lv_at hl 0 rfl) ?_
      refine gg_iload_n X 57 d_M_load_57 rfl (lv_at hl 1 rfl) ?_
      refine gg_aload_n X 58 d_M_load_58 rfl (lv_at hl 0 rfl) ?_
      refine gg_get_M_memory X 59 (Or.inl (List.mem_cons_of_mem _ w_359)) d_M_load_59 ?_
      refine gg_bipush X 62 (16 : Int32) d_M_load_62 (by decide) ?_
      refine gg_iload_n X 64 d_M_load_64 rfl (lv_at hl 2 rfl) ?_
      refine gg_imul X 65 d_M_load_65 ?_
      refine gg_iload X 66 d_M_load_66 (lv_at hl 4 rfl) ?_
      refine gg_iadd X 68 d_M_load_68 ?_
      refine gg_ald_A_memory X 69 d_M_load_69 ?_
      refine gg_callV X 70 nwOk_M [.int x1, .int (s1 0 (Int32.toNatClampNeg (((16 : Int32) * x2) + x4)))] [] (fun _ _ h sz => M_M_add l D dI ad _ x1 (s1 0 (Int32.toNatClampNeg (((16 : Int32) * x2) + x4)))  h sz) (cwV 2 X.1.2.2.2.2 (gwV w_499 w_501 ws_M_add w_5 w_502) rfl rfl rfl (by decide +kernel) ⟨by decide, by decide⟩) (he_M_Main) rfl rfl hl.1 rfl (Nat.le_of_ble_eq_true rfl) ⟨Nat.zero_le _, Nat.zero_le _⟩ d_M_load_70 (fun r2 s3 ho4 => ?_)
      refine gg_show_v ?_
      refine gg_iinc X 73 (k := 4) (1 : Int32) (fun v5 => [(4, .int v5), (0, .ref (ad 0)), (1, .int x1), (2, .int x2), (3, .int x3)]) d_M_load_73 hl rfl (by decide) (by decide) (fun _ => rfl) (fun v5 ls hl => ?_)
      refine gg_goto X 76 25 d_M_load_76 rfl ?_
      exact ih x1 x2 x3 v5 s3 _  (lv_sub hl [1, 2, 3, 4, 0] rfl)
set_option maxHeartbeats 4000000 in
set_option maxRecDepth 100000 in
theorem t_M_load {p : Program} {l : Launch} {e : Env} {s0 : State} {m : MethodId} {args : Array Value} {below : List Frame} {meth : Method} {c : Code} {D : va_G} {A : Nat → Prop} {dI : Nat → ClassId} {ad : Nat → Nat} (X : CX p s0 m args meth c D vwCl (tyM dI) [] A prog_6_method_17_code 5 none (Cond.code y_M_load prog_6_method_17_code 5 none :: WS) R_M) (a1 : Int32) (a2 : Int32) (a3 : Int32) (s : eS) (ls : Array Slot)  (hl : lv_has ls 5 [(0, .ref (ad 0)), (1, .int a1), (2, .int a2), (3, .int a3)]) : GG p l e rm_M_load s0 m args below meth c D vwCl (tyM dI) A (wM dI ad) 0 0 (QM below args s0 D vwCl (tyM dI) A (wM dI ad) rvV) (f_M_load a1 a2 a3 s) (F0 m 0 ls []) s := by
  unfold f_M_load
  refine gg_aload_n X 0 d_M_load_0 rfl (lv_at hl 0 rfl) ?_
  refine gg_get_M_loads X 1 (Or.inl (List.mem_cons_of_mem _ w_365)) d_M_load_1 ?_
  refine gg_iload_n X 4 d_M_load_4 rfl (lv_at hl 1 rfl) ?_
  refine gg_dup2 X 5 d_M_load_5 rfl rfl ?_
  refine gg_ald_A_loads X 6 d_M_load_6 ?_
  refine gg_iconst X 7 (1 : Int32) d_M_load_7 (by decide) ?_
  refine gg_iadd X 8 d_M_load_8 ?_
  refine gg_ast_A_loads X 9 d_M_load_9 (fun s1 => ?_)
  refine gg_aload_n X 10 d_M_load_10 rfl (lv_at hl 0 rfl) ?_
  refine gg_iload_n X 11 d_M_load_11 rfl (lv_at hl 1 rfl) ?_
  refine gg_iconst X 12 (2 : Int32) d_M_load_12 (by decide) ?_
  refine gg_callV X 13 nwOk_M [.int a1, .int (2 : Int32)] [] (fun _ _ h sz => M_M_add l D dI ad _ a1 (2 : Int32)  h sz) (cwV 2 X.1.2.2.2.2 (gwV w_499 w_501 ws_M_add w_5 w_502) rfl rfl rfl (by decide +kernel) ⟨by decide, by decide⟩) (he_M_Main) rfl rfl hl.1 rfl (Nat.le_of_ble_eq_true rfl) ⟨Nat.zero_le _, Nat.zero_le _⟩ d_M_load_13 (fun r2 s3 ho4 => ?_)
  refine gg_show_v ?_
  refine gg_aload_n X 16 d_M_load_16 rfl (lv_at hl 0 rfl) ?_
  refine gg_iload_n X 17 d_M_load_17 rfl (lv_at hl 1 rfl) ?_
  refine gg_iload_n X 18 d_M_load_18 rfl (lv_at hl 2 rfl) ?_
  refine gg_callV X 19 nwOk_M [.int a1, .int a2] [] (fun _ _ h sz => M_M_add l D dI ad _ a1 a2  h sz) (cwV 2 X.1.2.2.2.2 (gwV w_499 w_501 ws_M_add w_5 w_502) rfl rfl rfl (by decide +kernel) ⟨by decide, by decide⟩) (he_M_Main) rfl rfl hl.1 rfl (Nat.le_of_ble_eq_true rfl) ⟨Nat.zero_le _, Nat.zero_le _⟩ d_M_load_19 (fun r5 s6 ho7 => ?_)
  refine gg_show_v ?_
  refine gg_iconst X 22 (0 : Int32) d_M_load_22 (by decide) ?_
  refine gg_istore X 23 (fun v8 => [(4, .int v8), (0, .ref (ad 0)), (1, .int a1), (2, .int a2), (3, .int a3)]) d_M_load_23 hl (by decide) (fun _ => rfl) (fun v8 ls hl => ?_)
  exact t_M_load_25 X fu a1 a2 a3 v8 s6 _  (lv_sub hl [1, 2, 3, 4, 0] rfl)
theorem M_M_load (l : Launch) (D : va_G) (dI : Nat → ClassId) (ad : Nat → Nat) (s : eS) (a1 : Int32) (a2 : Int32) (a3 : Int32)  {r : Unit} {s' : eS} (h : f_M_load a1 a2 a3 s = some (r, s')) (sz : Nat) : Met l y_M_load (Cond.code y_M_load prog_6_method_17_code 5 none :: WS) rm_M_load (Px (wM dI ad) D vwCl (tyM dI) [] sz s [.ref (ad 0), .int a1, .int a2, .int a3]) (Qx rvV (wM dI ad) D vwCl (tyM dI) (va_A ((wM dI ad) s) sz) r s') 0 0 (va_A ((wM dI ad) s) sz) :=
  met_of [.ref (ad 0), .int a1, .int a2, .int a3] (by decide) rfl rfl (Nat.le_of_ble_eq_true rfl) h (fun p e s0 m args below meth c A ls X hl => t_M_load X a1 a2 a3 s ls  hl)
set_option maxHeartbeats 4000000 in
set_option maxRecDepth 100000 in
theorem t_M_wipe_2 {p : Program} {l : Launch} {e : Env} {s0 : State} {m : MethodId} {args : Array Value} {below : List Frame} {meth : Method} {c : Code} {D : va_G} {A : Nat → Prop} {dI : Nat → ClassId} {ad : Nat → Nat} (X : CX p s0 m args meth c D vwCl (tyM dI) [] A prog_6_method_18_code 3 none (Cond.code y_M_wipe prog_6_method_18_code 3 none :: WS) R_M) : ∀ (fl : Nat) (x1 : Int32) (x2 : Int32) (s : eS) (ls : Array Slot), lv_has ls 3 [(0, .ref (ad 0)), (1, .int x1), (2, .int x2)] → GG p l e rm_M_wipe s0 m args below meth c D vwCl (tyM dI) A (wM dI ad) 0 0 (QM below args s0 D vwCl (tyM dI) A (wM dI ad) rvV) (f_M_wipe_2 fl x1 x2 s) (F0 m 2 ls []) s := by
  intro fl
  induction fl with
  | zero =>
    intro x1 x2 s ls hl
    rw [f_M_wipe_2]
    exact gg_none
  | succ fl ih =>
    intro x1 x2 s ls hl
    rw [f_M_wipe_2]
    refine gg_iload_n X 2 d_M_wipe_2 rfl (lv_at hl 2 rfl) ?_
    refine gg_bipush X 3 (16 : Int32) d_M_wipe_3 (by decide) ?_
    refine gg_icmp_ge X 5 26 d_M_wipe_5 rfl (fun _ => ?_) (fun _ => ?_)
    · exact gg_vret X 26 d_M_wipe_26
    · refine gg_aload_n X 8 d_M_wipe_8 rfl (lv_at hl 0 rfl) ?_
      refine gg_get_M_memory X 9 (Or.inl (List.mem_cons_of_mem _ w_359)) d_M_wipe_9 ?_
      refine gg_bipush X 12 (16 : Int32) d_M_wipe_12 (by decide) ?_
      refine gg_iload_n X 14 d_M_wipe_14 rfl (lv_at hl 1 rfl) ?_
      refine gg_imul X 15 d_M_wipe_15 ?_
      refine gg_iload_n X 16 d_M_wipe_16 rfl (lv_at hl 2 rfl) ?_
      refine gg_iadd X 17 d_M_wipe_17 ?_
      refine gg_iconst X 18 (0 : Int32) d_M_wipe_18 (by decide) ?_
      refine gg_ast_A_memory X 19 d_M_wipe_19 (fun s1 => ?_)
      refine gg_iinc X 20 (k := 2) (1 : Int32) (fun v2 => [(2, .int v2), (0, .ref (ad 0)), (1, .int x1)]) d_M_wipe_20 hl rfl (by decide) (by decide) (fun _ => rfl) (fun v2 ls hl => ?_)
      refine gg_goto X 23 2 d_M_wipe_23 rfl ?_
      exact ih x1 v2 s1 _  (lv_sub hl [1, 2, 0] rfl)
set_option maxHeartbeats 4000000 in
set_option maxRecDepth 100000 in
theorem t_M_wipe {p : Program} {l : Launch} {e : Env} {s0 : State} {m : MethodId} {args : Array Value} {below : List Frame} {meth : Method} {c : Code} {D : va_G} {A : Nat → Prop} {dI : Nat → ClassId} {ad : Nat → Nat} (X : CX p s0 m args meth c D vwCl (tyM dI) [] A prog_6_method_18_code 3 none (Cond.code y_M_wipe prog_6_method_18_code 3 none :: WS) R_M) (a1 : Int32) (s : eS) (ls : Array Slot)  (hl : lv_has ls 3 [(0, .ref (ad 0)), (1, .int a1)]) : GG p l e rm_M_wipe s0 m args below meth c D vwCl (tyM dI) A (wM dI ad) 0 0 (QM below args s0 D vwCl (tyM dI) A (wM dI ad) rvV) (f_M_wipe a1 s) (F0 m 0 ls []) s := by
  unfold f_M_wipe
  refine gg_iconst X 0 (0 : Int32) d_M_wipe_0 (by decide) ?_
  refine gg_istore_n X 1 (fun v1 => [(2, .int v1), (0, .ref (ad 0)), (1, .int a1)]) d_M_wipe_1 rfl hl (by decide) (fun _ => rfl) (fun v1 ls hl => ?_)
  exact t_M_wipe_2 X fu a1 v1 s _  (lv_sub hl [1, 2, 0] rfl)
theorem M_M_wipe (l : Launch) (D : va_G) (dI : Nat → ClassId) (ad : Nat → Nat) (s : eS) (a1 : Int32)  {r : Unit} {s' : eS} (h : f_M_wipe a1 s = some (r, s')) (sz : Nat) : Met l y_M_wipe (Cond.code y_M_wipe prog_6_method_18_code 3 none :: WS) rm_M_wipe (Px (wM dI ad) D vwCl (tyM dI) [] sz s [.ref (ad 0), .int a1]) (Qx rvV (wM dI ad) D vwCl (tyM dI) (va_A ((wM dI ad) s) sz) r s') 0 0 (va_A ((wM dI ad) s) sz) :=
  met_of [.ref (ad 0), .int a1] (by decide) rfl rfl (Nat.le_of_ble_eq_true rfl) h (fun p e s0 m args below meth c A ls X hl => t_M_wipe X a1 s ls  hl)
set_option maxHeartbeats 4000000 in
set_option maxRecDepth 100000 in
theorem t_M_destroy_2 {p : Program} {l : Launch} {e : Env} {s0 : State} {m : MethodId} {args : Array Value} {below : List Frame} {meth : Method} {c : Code} {D : va_G} {A : Nat → Prop} {dI : Nat → ClassId} {ad : Nat → Nat} (X : CX p s0 m args meth c D vwCl (tyM dI) [] A prog_6_method_19_code 3 none (Cond.code y_M_destroy prog_6_method_19_code 3 none :: WS) R_M) : ∀ (fl : Nat) (x1 : Int32) (x2 : Int32) (s : eS) (ls : Array Slot), lv_has ls 3 [(0, .ref (ad 0)), (1, .int x1), (2, .int x2)] → GG p l e rm_M_destroy s0 m args below meth c D vwCl (tyM dI) A (wM dI ad) 0 0 (QM below args s0 D vwCl (tyM dI) A (wM dI ad) rvV) (f_M_destroy_2 fl x1 x2 s) (F0 m 2 ls []) s := by
  intro fl
  induction fl with
  | zero =>
    intro x1 x2 s ls hl
    rw [f_M_destroy_2]
    exact gg_none
  | succ fl ih =>
    intro x1 x2 s ls hl
    rw [f_M_destroy_2]
    refine gg_iload_n X 2 d_M_destroy_2 rfl (lv_at hl 2 rfl) ?_
    refine gg_bipush X 3 (16 : Int32) d_M_destroy_3 (by decide) ?_
    refine gg_icmp_ge X 5 49 d_M_destroy_5 rfl (fun _ => ?_) (fun _ => ?_)
    · refine gg_aload_n X 49 d_M_destroy_49 rfl (lv_at hl 0 rfl) ?_
      refine gg_get_M_stateOf X 50 (Or.inl (List.mem_cons_of_mem _ w_362)) d_M_destroy_50 ?_
      refine gg_iload_n X 53 d_M_destroy_53 rfl (lv_at hl 1 rfl) ?_
      refine gg_iconst X 54 (0 : Int32) d_M_destroy_54 (by decide) ?_
      refine gg_ast_A_stateOf X 55 d_M_destroy_55 (fun s1 => ?_)
      refine gg_aload_n X 56 d_M_destroy_56 rfl (lv_at hl 0 rfl) ?_
      refine gg_get_M_phase X 57 (Or.inl (List.mem_cons_of_mem _ w_368)) d_M_destroy_57 ?_
      refine gg_iconst X 60 (2 : Int32) d_M_destroy_60 (by decide) ?_
      refine gg_iload_n X 61 d_M_destroy_61 rfl (lv_at hl 1 rfl) ?_
      refine gg_imul X 62 d_M_destroy_62 ?_
      refine gg_iconst X 63 (0 : Int32) d_M_destroy_63 (by decide) ?_
      refine gg_ast_A_phase X 64 d_M_destroy_64 (fun s2 => ?_)
      refine gg_aload_n X 65 d_M_destroy_65 rfl (lv_at hl 0 rfl) ?_
      refine gg_get_M_phase X 66 (Or.inl (List.mem_cons_of_mem _ w_368)) d_M_destroy_66 ?_
      refine gg_iconst X 69 (2 : Int32) d_M_destroy_69 (by decide) ?_
      refine gg_iload_n X 70 d_M_destroy_70 rfl (lv_at hl 1 rfl) ?_
      refine gg_imul X 71 d_M_destroy_71 ?_
      refine gg_iconst X 72 (1 : Int32) d_M_destroy_72 (by decide) ?_
      refine gg_iadd X 73 d_M_destroy_73 ?_
      refine gg_iconst X 74 (0 : Int32) d_M_destroy_74 (by decide) ?_
      refine gg_ast_A_phase X 75 d_M_destroy_75 (fun s3 => ?_)
      exact gg_vret X 76 d_M_destroy_76
    · refine gg_aload_n X 8 d_M_destroy_8 rfl (lv_at hl 0 rfl) ?_
      refine gg_iload_n X 9 d_M_destroy_9 rfl (lv_at hl 2 rfl) ?_
      refine gg_callV X 10 nwOk_M [.int x2] [] (fun _ _ h sz => M_M_kind l D dI ad _ x2  h sz) (cwV 1 X.1.2.2.2.2 (gwV w_440 w_442 ws_M_kind w_5 w_443) rfl rfl rfl (by decide +kernel) ⟨by decide, by decide⟩) (he_M_Main) rfl rfl hl.1 rfl (Nat.le_of_ble_eq_true rfl) ⟨Nat.zero_le _, Nat.zero_le _⟩ d_M_destroy_10 (fun r4 s5 ho6 => ?_)
      refine gg_show_i ?_
      refine gg_iconst X 13 (2 : Int32) d_M_destroy_13 (by decide) ?_
      refine gg_iload_n X 14 d_M_destroy_14 rfl (lv_at hl 1 rfl) ?_
      refine gg_iadd X 15 d_M_destroy_15 ?_
      refine gg_icmp_ne X 16 24 d_M_destroy_16 rfl (fun _ => ?_) (fun _ => ?_)
      · refine gg_aload_n X 24 d_M_destroy_24 rfl (lv_at hl 0 rfl) ?_
        refine gg_get_M_partner X 25 (Or.inl (List.mem_cons_of_mem _ w_361)) d_M_destroy_25 ?_
        refine gg_iload_n X 28 d_M_destroy_28 rfl (lv_at hl 2 rfl) ?_
        refine gg_ald_A_partner X 29 d_M_destroy_29 ?_
        refine gg_iconst X 30 (1 : Int32) d_M_destroy_30 (by decide) ?_
        refine gg_iload_n X 31 d_M_destroy_31 rfl (lv_at hl 1 rfl) ?_
        refine gg_iadd X 32 d_M_destroy_32 ?_
        refine gg_icmp_ne X 33 43 d_M_destroy_33 rfl (fun _ => ?_) (fun _ => ?_)
        · refine gg_iinc X 43 (k := 2) (1 : Int32) (fun v7 => [(2, .int v7), (0, .ref (ad 0)), (1, .int x1)]) d_M_destroy_43 hl rfl (by decide) (by decide) (fun _ => rfl) (fun v7 ls hl => ?_)
          refine gg_goto X 46 2 d_M_destroy_46 rfl ?_
          exact ih x1 v7 s5 _  (lv_sub hl [1, 2, 0] rfl)
        · refine gg_aload_n X 36 d_M_destroy_36 rfl (lv_at hl 0 rfl) ?_
          refine gg_get_M_partner X 37 (Or.inl (List.mem_cons_of_mem _ w_361)) d_M_destroy_37 ?_
          refine gg_iload_n X 40 d_M_destroy_40 rfl (lv_at hl 2 rfl) ?_
          refine gg_iconst X 41 (0 : Int32) d_M_destroy_41 (by decide) ?_
          refine gg_ast_A_partner X 42 d_M_destroy_42 (fun s8 => ?_)
          refine gg_iinc X 43 (k := 2) (1 : Int32) (fun v9 => [(2, .int v9), (0, .ref (ad 0)), (1, .int x1)]) d_M_destroy_43 hl rfl (by decide) (by decide) (fun _ => rfl) (fun v9 ls hl => ?_)
          refine gg_goto X 46 2 d_M_destroy_46 rfl ?_
          exact ih x1 v9 s8 _  (lv_sub hl [1, 2, 0] rfl)
      · refine gg_aload_n X 19 d_M_destroy_19 rfl (lv_at hl 0 rfl) ?_
        refine gg_iload_n X 20 d_M_destroy_20 rfl (lv_at hl 2 rfl) ?_
        refine gg_callV X 21 nwOk_M [.int x2] [] (fun _ _ h sz => M_M_wipe l D dI ad _ x2  h sz) (cwV 1 X.1.2.2.2.2 (gwV w_523 w_525 ws_M_wipe w_5 w_526) rfl rfl rfl (by decide +kernel) ⟨by decide, by decide⟩) (he_M_Main) rfl rfl hl.1 rfl (Nat.le_of_ble_eq_true rfl) ⟨Nat.zero_le _, Nat.zero_le _⟩ d_M_destroy_21 (fun r10 s11 ho12 => ?_)
        refine gg_show_v ?_
        refine gg_aload_n X 24 d_M_destroy_24 rfl (lv_at hl 0 rfl) ?_
        refine gg_get_M_partner X 25 (Or.inl (List.mem_cons_of_mem _ w_361)) d_M_destroy_25 ?_
        refine gg_iload_n X 28 d_M_destroy_28 rfl (lv_at hl 2 rfl) ?_
        refine gg_ald_A_partner X 29 d_M_destroy_29 ?_
        refine gg_iconst X 30 (1 : Int32) d_M_destroy_30 (by decide) ?_
        refine gg_iload_n X 31 d_M_destroy_31 rfl (lv_at hl 1 rfl) ?_
        refine gg_iadd X 32 d_M_destroy_32 ?_
        refine gg_icmp_ne X 33 43 d_M_destroy_33 rfl (fun _ => ?_) (fun _ => ?_)
        · refine gg_iinc X 43 (k := 2) (1 : Int32) (fun v13 => [(2, .int v13), (0, .ref (ad 0)), (1, .int x1)]) d_M_destroy_43 hl rfl (by decide) (by decide) (fun _ => rfl) (fun v13 ls hl => ?_)
          refine gg_goto X 46 2 d_M_destroy_46 rfl ?_
          exact ih x1 v13 s11 _  (lv_sub hl [1, 2, 0] rfl)
        · refine gg_aload_n X 36 d_M_destroy_36 rfl (lv_at hl 0 rfl) ?_
          refine gg_get_M_partner X 37 (Or.inl (List.mem_cons_of_mem _ w_361)) d_M_destroy_37 ?_
          refine gg_iload_n X 40 d_M_destroy_40 rfl (lv_at hl 2 rfl) ?_
          refine gg_iconst X 41 (0 : Int32) d_M_destroy_41 (by decide) ?_
          refine gg_ast_A_partner X 42 d_M_destroy_42 (fun s14 => ?_)
          refine gg_iinc X 43 (k := 2) (1 : Int32) (fun v15 => [(2, .int v15), (0, .ref (ad 0)), (1, .int x1)]) d_M_destroy_43 hl rfl (by decide) (by decide) (fun _ => rfl) (fun v15 ls hl => ?_)
          refine gg_goto X 46 2 d_M_destroy_46 rfl ?_
          exact ih x1 v15 s14 _  (lv_sub hl [1, 2, 0] rfl)
set_option maxHeartbeats 4000000 in
set_option maxRecDepth 100000 in
theorem t_M_destroy {p : Program} {l : Launch} {e : Env} {s0 : State} {m : MethodId} {args : Array Value} {below : List Frame} {meth : Method} {c : Code} {D : va_G} {A : Nat → Prop} {dI : Nat → ClassId} {ad : Nat → Nat} (X : CX p s0 m args meth c D vwCl (tyM dI) [] A prog_6_method_19_code 3 none (Cond.code y_M_destroy prog_6_method_19_code 3 none :: WS) R_M) (a1 : Int32) (s : eS) (ls : Array Slot)  (hl : lv_has ls 3 [(0, .ref (ad 0)), (1, .int a1)]) : GG p l e rm_M_destroy s0 m args below meth c D vwCl (tyM dI) A (wM dI ad) 0 0 (QM below args s0 D vwCl (tyM dI) A (wM dI ad) rvV) (f_M_destroy a1 s) (F0 m 0 ls []) s := by
  unfold f_M_destroy
  refine gg_iconst X 0 (0 : Int32) d_M_destroy_0 (by decide) ?_
  refine gg_istore_n X 1 (fun v1 => [(2, .int v1), (0, .ref (ad 0)), (1, .int a1)]) d_M_destroy_1 rfl hl (by decide) (fun _ => rfl) (fun v1 ls hl => ?_)
  exact t_M_destroy_2 X fu a1 v1 s _  (lv_sub hl [1, 2, 0] rfl)
theorem M_M_destroy (l : Launch) (D : va_G) (dI : Nat → ClassId) (ad : Nat → Nat) (s : eS) (a1 : Int32)  {r : Unit} {s' : eS} (h : f_M_destroy a1 s = some (r, s')) (sz : Nat) : Met l y_M_destroy (Cond.code y_M_destroy prog_6_method_19_code 3 none :: WS) rm_M_destroy (Px (wM dI ad) D vwCl (tyM dI) [] sz s [.ref (ad 0), .int a1]) (Qx rvV (wM dI ad) D vwCl (tyM dI) (va_A ((wM dI ad) s) sz) r s') 0 0 (va_A ((wM dI ad) s) sz) :=
  met_of [.ref (ad 0), .int a1] (by decide) rfl rfl (Nat.le_of_ble_eq_true rfl) h (fun p e s0 m args below meth c A ls X hl => t_M_destroy X a1 s ls  hl)
