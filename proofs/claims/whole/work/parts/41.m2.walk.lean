set_option maxHeartbeats 4000000 in
set_option maxRecDepth 100000 in
theorem t_M_perform_131 {p : Program} {l : Launch} {e : Env} {s0 : State} {m : MethodId} {args : Array Value} {below : List Frame} {meth : Method} {c : Code} {D : va_G} {A : Nat → Prop} {dI : Nat → ClassId} {ad : Nat → Nat} (X : CX p s0 m args meth c D vwCl (tyM dI) [] A prog_6_method_16_code 6 none (Cond.code y_M_perform prog_6_method_16_code 6 none :: WS) R_M) : ∀ (fl : Nat) (x4 : Int32) (x5 : Int32) (s : eS) (ls : Array Slot), lv_has ls 6 [(0, .ref (ad 0)), (4, .int x4), (5, .int x5)] → GG p l e rm_M_perform s0 m args below meth c D vwCl (tyM dI) A (wM dI ad) 0 0 (QM below args s0 D vwCl (tyM dI) A (wM dI ad) rvV) (f_M_perform_131 fl x4 x5 s) (F0 m 131 ls []) s := by
  intro fl
  induction fl with
  | zero =>
    intro x4 x5 s ls hl
    rw [f_M_perform_131]
    exact gg_none
  | succ fl ih =>
    intro x4 x5 s ls hl
    rw [f_M_perform_131]
    refine gg_iload X 131 d_M_perform_131 (lv_at hl 2 rfl) ?_
    refine gg_bipush X 133 (8 : Int32) d_M_perform_133 (by decide) ?_
    refine gg_icmp_ge X 135 171 d_M_perform_135 rfl (fun _ => ?_) (fun _ => ?_)
    · refine gg_goto X 171 236 d_M_perform_171 rfl ?_
      exact gg_vret X 236 d_M_perform_236
    · refine gg_aload_n X 138 d_M_perform_138 rfl (lv_at hl 0 rfl) ?_
      refine gg_get_M_reg X 139 (Or.inl (List.mem_cons_of_mem _ w_370)) d_M_perform_139 ?_
      refine gg_bipush X 142 (8 : Int32) d_M_perform_142 (by decide) ?_
      refine gg_aload_n X 144 d_M_perform_144 rfl (lv_at hl 0 rfl) ?_
      refine gg_get_M_who X 145 (Or.inl (List.mem_cons_of_mem _ w_372)) d_M_perform_145 ?_
      refine gg_imul X 148 d_M_perform_148 ?_
      refine gg_iload X 149 d_M_perform_149 (lv_at hl 2 rfl) ?_
      refine gg_iadd X 151 d_M_perform_151 ?_
      refine gg_iload X 152 d_M_perform_152 (lv_at hl 2 rfl) ?_
      refine gg_iconst X 154 (1 : Int32) d_M_perform_154 (by decide) ?_
      refine gg_icmp_ne X 155 163 d_M_perform_155 rfl (fun _ => ?_) (fun _ => ?_)
      · refine gg_iconst X 163 (0 : Int32) d_M_perform_163 (by decide) ?_
        refine gg_ast_A_reg X 164 d_M_perform_164 (fun s1 => ?_)
        refine gg_iinc X 165 (k := 2) (1 : Int32) (fun v2 => [(5, .int v2), (0, .ref (ad 0)), (4, .int x4)]) d_M_perform_165 hl rfl (by decide) (by decide) (fun _ => rfl) (fun v2 ls hl => ?_)
        refine gg_goto X 168 131 d_M_perform_168 rfl ?_
        exact ih x4 v2 s1 _  (lv_sub hl [1, 2, 0] rfl)
      · refine gg_iload X 158 d_M_perform_158 (lv_at hl 1 rfl) ?_
        refine gg_goto X 160 164 d_M_perform_160 rfl ?_
        refine gg_ast_A_reg X 164 d_M_perform_164 (fun s3 => ?_)
        refine gg_iinc X 165 (k := 2) (1 : Int32) (fun v4 => [(5, .int v4), (0, .ref (ad 0)), (4, .int x4)]) d_M_perform_165 hl rfl (by decide) (by decide) (fun _ => rfl) (fun v4 ls hl => ?_)
        refine gg_goto X 168 131 d_M_perform_168 rfl ?_
        exact ih x4 v4 s3 _  (lv_sub hl [1, 2, 0] rfl)
set_option maxHeartbeats 4000000 in
set_option maxRecDepth 100000 in
theorem t_M_perform {p : Program} {l : Launch} {e : Env} {s0 : State} {m : MethodId} {args : Array Value} {below : List Frame} {meth : Method} {c : Code} {D : va_G} {A : Nat → Prop} {dI : Nat → ClassId} {ad : Nat → Nat} (X : CX p s0 m args meth c D vwCl (tyM dI) [] A prog_6_method_16_code 6 none (Cond.code y_M_perform prog_6_method_16_code 6 none :: WS) R_M) (a1 : Int32) (a2 : Int32) (a3 : Int32) (a4 : Int32) (s : eS) (ls : Array Slot)  (hl : lv_has ls 6 [(0, .ref (ad 0)), (1, .int a1), (2, .int a2), (3, .int a3), (4, .int a4)]) : GG p l e rm_M_perform s0 m args below meth c D vwCl (tyM dI) A (wM dI ad) 0 0 (QM below args s0 D vwCl (tyM dI) A (wM dI ad) rvV) (f_M_perform a1 a2 a3 a4 s) (F0 m 0 ls []) s := by
  unfold f_M_perform
  refine gg_iload_n X 0 d_M_perform_0 rfl (lv_at hl 1 rfl) ?_
  refine gg_eqc (fun h1 => ?_) (fun h1 => ?_)
  · refine gg_tin X 1 52 d_M_perform_1 h1 (by decide) (by decide) rfl rfl ?_
    refine gg_aload_n X 52 d_M_perform_52 rfl (lv_at hl 0 rfl) ?_
    refine gg_iload_n X 53 d_M_perform_53 rfl (lv_at hl 2 rfl) ?_
    refine gg_iload_n X 54 d_M_perform_54 rfl (lv_at hl 3 rfl) ?_
    refine gg_iload X 55 d_M_perform_55 (lv_at hl 4 rfl) ?_
    refine gg_callV X 57 nwOk_M [.int a2, .int a3, .int a4] [] (fun _ _ h sz => M_M_load l D dI ad _ a2 a3 a4  h sz) (cwV 3 X.1.2.2.2.2 (gwV w_515 w_517 ws_M_load w_5 w_518) rfl rfl rfl (by decide +kernel) ⟨by decide, by decide⟩) (he_M_Main) rfl rfl hl.1 rfl (Nat.le_of_ble_eq_true rfl) ⟨Nat.zero_le _, Nat.zero_le _⟩ d_M_perform_57 (fun r2 s3 ho4 => ?_)
    refine gg_show_v ?_
    refine gg_goto X 60 236 d_M_perform_60 rfl ?_
    exact gg_vret X 236 d_M_perform_236
  refine gg_eqc (fun h5 => ?_) (fun h5 => ?_)
  · refine gg_tin X 1 224 d_M_perform_1 h5 (by decide) (by decide) rfl rfl ?_
    refine gg_aload_n X 224 d_M_perform_224 rfl (lv_at hl 0 rfl) ?_
    refine gg_get_M_own X 225 (Or.inl (List.mem_cons_of_mem _ w_360)) d_M_perform_225 ?_
    refine gg_iload_n X 228 d_M_perform_228 rfl (lv_at hl 2 rfl) ?_
    refine gg_iconst X 229 (0 : Int32) d_M_perform_229 (by decide) ?_
    refine gg_ast_A_own X 230 d_M_perform_230 (fun s6 => ?_)
    refine gg_aload_n X 231 d_M_perform_231 rfl (lv_at hl 0 rfl) ?_
    refine gg_iload_n X 232 d_M_perform_232 rfl (lv_at hl 2 rfl) ?_
    refine gg_callV X 233 nwOk_M [.int a2] [] (fun _ _ h sz => M_M_wipe l D dI ad _ a2  h sz) (cwV 1 X.1.2.2.2.2 (gwV w_523 w_525 ws_M_wipe w_5 w_526) rfl rfl rfl (by decide +kernel) ⟨by decide, by decide⟩) (he_M_Main) rfl rfl hl.1 rfl (Nat.le_of_ble_eq_true rfl) ⟨Nat.zero_le _, Nat.zero_le _⟩ d_M_perform_233 (fun r7 s8 ho9 => ?_)
    refine gg_show_v ?_
    exact gg_vret X 236 d_M_perform_236
  refine gg_eqc (fun h10 => ?_) (fun h10 => ?_)
  · refine gg_tin X 1 63 d_M_perform_1 h10 (by decide) (by decide) rfl rfl ?_
    refine gg_aload_n X 63 d_M_perform_63 rfl (lv_at hl 0 rfl) ?_
    refine gg_get_M_stateOf X 64 (Or.inl (List.mem_cons_of_mem _ w_362)) d_M_perform_64 ?_
    refine gg_iload_n X 67 d_M_perform_67 rfl (lv_at hl 2 rfl) ?_
    refine gg_iconst X 68 (2 : Int32) d_M_perform_68 (by decide) ?_
    refine gg_ast_A_stateOf X 69 d_M_perform_69 (fun s11 => ?_)
    refine gg_aload_n X 70 d_M_perform_70 rfl (lv_at hl 0 rfl) ?_
    refine gg_iload_n X 71 d_M_perform_71 rfl (lv_at hl 2 rfl) ?_
    refine gg_iconst X 72 (4 : Int32) d_M_perform_72 (by decide) ?_
    refine gg_callV X 73 nwOk_M [.int a2, .int (4 : Int32)] [] (fun _ _ h sz => M_M_add l D dI ad _ a2 (4 : Int32)  h sz) (cwV 2 X.1.2.2.2.2 (gwV w_499 w_501 ws_M_add w_5 w_502) rfl rfl rfl (by decide +kernel) ⟨by decide, by decide⟩) (he_M_Main) rfl rfl hl.1 rfl (Nat.le_of_ble_eq_true rfl) ⟨Nat.zero_le _, Nat.zero_le _⟩ d_M_perform_73 (fun r12 s13 ho14 => ?_)
    refine gg_show_v ?_
    refine gg_goto X 76 236 d_M_perform_76 rfl ?_
    exact gg_vret X 236 d_M_perform_236
  refine gg_eqc (fun h15 => ?_) (fun h15 => ?_)
  · refine gg_tin X 1 79 d_M_perform_1 h15 (by decide) (by decide) rfl rfl ?_
    refine gg_aload_n X 79 d_M_perform_79 rfl (lv_at hl 0 rfl) ?_
    refine gg_get_M_partner X 80 (Or.inl (List.mem_cons_of_mem _ w_361)) d_M_perform_80 ?_
    refine gg_iload_n X 83 d_M_perform_83 rfl (lv_at hl 3 rfl) ?_
    refine gg_iconst X 84 (1 : Int32) d_M_perform_84 (by decide) ?_
    refine gg_iload_n X 85 d_M_perform_85 rfl (lv_at hl 2 rfl) ?_
    refine gg_iadd X 86 d_M_perform_86 ?_
    refine gg_ast_A_partner X 87 d_M_perform_87 (fun s16 => ?_)
    refine gg_goto X 88 236 d_M_perform_88 rfl ?_
    exact gg_vret X 236 d_M_perform_236
  refine gg_eqc (fun h17 => ?_) (fun h17 => ?_)
  · refine gg_tin X 1 91 d_M_perform_1 h17 (by decide) (by decide) rfl rfl ?_
    refine gg_aload_n X 91 d_M_perform_91 rfl (lv_at hl 0 rfl) ?_
    refine gg_iconst X 92 (2 : Int32) d_M_perform_92 (by decide) ?_
    refine gg_iload_n X 93 d_M_perform_93 rfl (lv_at hl 2 rfl) ?_
    refine gg_imul X 94 d_M_perform_94 ?_
    refine gg_iload_n X 95 d_M_perform_95 rfl (lv_at hl 3 rfl) ?_
    refine gg_iadd X 96 d_M_perform_96 ?_
    refine gg_put_M_who X 97 (Or.inl (List.mem_cons_of_mem _ w_372)) d_M_perform_97 (fun s18 => ?_)
    refine gg_aload_n X 100 d_M_perform_100 rfl (lv_at hl 0 rfl) ?_
    refine gg_get_M_phase X 101 (Or.inl (List.mem_cons_of_mem _ w_368)) d_M_perform_101 ?_
    refine gg_aload_n X 104 d_M_perform_104 rfl (lv_at hl 0 rfl) ?_
    refine gg_get_M_who X 105 (Or.inl (List.mem_cons_of_mem _ w_372)) d_M_perform_105 ?_
    refine gg_iconst X 108 (2 : Int32) d_M_perform_108 (by decide) ?_
    refine gg_ast_A_phase X 109 d_M_perform_109 (fun s19 => ?_)
    refine gg_aload_n X 110 d_M_perform_110 rfl (lv_at hl 0 rfl) ?_
    refine gg_get_M_place X 111 (Or.inl (List.mem_cons_of_mem _ w_371)) d_M_perform_111 ?_
    refine gg_aload_n X 114 d_M_perform_114 rfl (lv_at hl 0 rfl) ?_
    refine gg_get_M_who X 115 (Or.inl (List.mem_cons_of_mem _ w_372)) d_M_perform_115 ?_
    refine gg_aload_n X 118 d_M_perform_118 rfl (lv_at hl 0 rfl) ?_
    refine gg_get_M_entry X 119 (Or.inl (List.mem_cons_of_mem _ w_369)) d_M_perform_119 ?_
    refine gg_aload_n X 122 d_M_perform_122 rfl (lv_at hl 0 rfl) ?_
    refine gg_get_M_who X 123 (Or.inl (List.mem_cons_of_mem _ w_372)) d_M_perform_123 ?_
    refine gg_ald_A_entry X 126 d_M_perform_126 ?_
    refine gg_ast_A_place X 127 d_M_perform_127 (fun s20 => ?_)
    refine gg_iconst X 128 (0 : Int32) d_M_perform_128 (by decide) ?_
    refine gg_istore X 129 (fun v21 => [(5, .int v21), (0, .ref (ad 0)), (1, .int a1), (2, .int a2), (3, .int a3), (4, .int a4)]) d_M_perform_129 hl (by decide) (fun _ => rfl) (fun v21 ls hl => ?_)
    exact t_M_perform_131 X fu a4 v21 s20 _  (lv_sub hl [1, 5, 0] rfl)
  refine gg_eqc (fun h22 => ?_) (fun h22 => ?_)
  · refine gg_tin X 1 174 d_M_perform_1 h22 (by decide) (by decide) rfl rfl ?_
    refine gg_aload_n X 174 d_M_perform_174 rfl (lv_at hl 0 rfl) ?_
    refine gg_iconst X 175 (2 : Int32) d_M_perform_175 (by decide) ?_
    refine gg_iload_n X 176 d_M_perform_176 rfl (lv_at hl 2 rfl) ?_
    refine gg_imul X 177 d_M_perform_177 ?_
    refine gg_iload_n X 178 d_M_perform_178 rfl (lv_at hl 3 rfl) ?_
    refine gg_iadd X 179 d_M_perform_179 ?_
    refine gg_put_M_who X 180 (Or.inl (List.mem_cons_of_mem _ w_372)) d_M_perform_180 (fun s23 => ?_)
    refine gg_aload_n X 183 d_M_perform_183 rfl (lv_at hl 0 rfl) ?_
    refine gg_get_M_phase X 184 (Or.inl (List.mem_cons_of_mem _ w_368)) d_M_perform_184 ?_
    refine gg_aload_n X 187 d_M_perform_187 rfl (lv_at hl 0 rfl) ?_
    refine gg_get_M_who X 188 (Or.inl (List.mem_cons_of_mem _ w_372)) d_M_perform_188 ?_
    refine gg_iconst X 191 (2 : Int32) d_M_perform_191 (by decide) ?_
    refine gg_ast_A_phase X 192 d_M_perform_192 (fun s24 => ?_)
    refine gg_goto X 193 236 d_M_perform_193 rfl ?_
    exact gg_vret X 236 d_M_perform_236
  refine gg_eqc (fun h25 => ?_) (fun h25 => ?_)
  · refine gg_tin X 1 196 d_M_perform_1 h25 (by decide) (by decide) rfl rfl ?_
    refine gg_aload_n X 196 d_M_perform_196 rfl (lv_at hl 0 rfl) ?_
    refine gg_get_M_stateOf X 197 (Or.inl (List.mem_cons_of_mem _ w_362)) d_M_perform_197 ?_
    refine gg_iload_n X 200 d_M_perform_200 rfl (lv_at hl 2 rfl) ?_
    refine gg_iconst X 201 (3 : Int32) d_M_perform_201 (by decide) ?_
    refine gg_ast_A_stateOf X 202 d_M_perform_202 (fun s26 => ?_)
    refine gg_goto X 203 236 d_M_perform_203 rfl ?_
    exact gg_vret X 236 d_M_perform_236
  refine gg_eqc (fun h27 => ?_) (fun h27 => ?_)
  · refine gg_tin X 1 206 d_M_perform_1 h27 (by decide) (by decide) rfl rfl ?_
    refine gg_aload_n X 206 d_M_perform_206 rfl (lv_at hl 0 rfl) ?_
    refine gg_iload_n X 207 d_M_perform_207 rfl (lv_at hl 2 rfl) ?_
    refine gg_callV X 208 nwOk_M [.int a2] [] (fun _ _ h sz => M_M_destroy l D dI ad _ a2  h sz) (cwV 1 X.1.2.2.2.2 (gwV w_519 w_521 ws_M_destroy w_5 w_522) rfl rfl rfl (by decide +kernel) ⟨by decide, by decide⟩) (he_M_Main) rfl rfl hl.1 rfl (Nat.le_of_ble_eq_true rfl) ⟨Nat.zero_le _, Nat.zero_le _⟩ d_M_perform_208 (fun r28 s29 ho30 => ?_)
    refine gg_show_v ?_
    refine gg_goto X 211 236 d_M_perform_211 rfl ?_
    exact gg_vret X 236 d_M_perform_236
  refine gg_eqc (fun h31 => ?_) (fun h31 => ?_)
  · refine gg_tin X 1 214 d_M_perform_1 h31 (by decide) (by decide) rfl rfl ?_
    refine gg_aload_n X 214 d_M_perform_214 rfl (lv_at hl 0 rfl) ?_
    refine gg_get_M_own X 215 (Or.inl (List.mem_cons_of_mem _ w_360)) d_M_perform_215 ?_
    refine gg_iload_n X 218 d_M_perform_218 rfl (lv_at hl 2 rfl) ?_
    refine gg_iconst X 219 (1 : Int32) d_M_perform_219 (by decide) ?_
    refine gg_ast_A_own X 220 d_M_perform_220 (fun s32 => ?_)
    refine gg_goto X 221 236 d_M_perform_221 rfl ?_
    exact gg_vret X 236 d_M_perform_236
  refine gg_tout X 1 224 d_M_perform_1 (by have q0 := lv_neT (a := 2) h1 (by decide); have q1 := lv_neT (a := 3) h5 (by decide); have q2 := lv_neT (a := 4) h10 (by decide); have q3 := lv_neT (a := 5) h15 (by decide); have q4 := lv_neT (a := 6) h17 (by decide); have q5 := lv_neT (a := 7) h22 (by decide); have q6 := lv_neT (a := 8) h25 (by decide); have q7 := lv_neT (a := 9) h27 (by decide); have q8 := lv_neT (a := 10) h31 (by decide); omega) rfl ?_
  refine gg_aload_n X 224 d_M_perform_224 rfl (lv_at hl 0 rfl) ?_
  refine gg_get_M_own X 225 (Or.inl (List.mem_cons_of_mem _ w_360)) d_M_perform_225 ?_
  refine gg_iload_n X 228 d_M_perform_228 rfl (lv_at hl 2 rfl) ?_
  refine gg_iconst X 229 (0 : Int32) d_M_perform_229 (by decide) ?_
  refine gg_ast_A_own X 230 d_M_perform_230 (fun s33 => ?_)
  refine gg_aload_n X 231 d_M_perform_231 rfl (lv_at hl 0 rfl) ?_
  refine gg_iload_n X 232 d_M_perform_232 rfl (lv_at hl 2 rfl) ?_
  refine gg_callV X 233 nwOk_M [.int a2] [] (fun _ _ h sz => M_M_wipe l D dI ad _ a2  h sz) (cwV 1 X.1.2.2.2.2 (gwV w_523 w_525 ws_M_wipe w_5 w_526) rfl rfl rfl (by decide +kernel) ⟨by decide, by decide⟩) (he_M_Main) rfl rfl hl.1 rfl (Nat.le_of_ble_eq_true rfl) ⟨Nat.zero_le _, Nat.zero_le _⟩ d_M_perform_233 (fun r34 s35 ho36 => ?_)
  refine gg_show_v ?_
  exact gg_vret X 236 d_M_perform_236
theorem M_M_perform (l : Launch) (D : va_G) (dI : Nat → ClassId) (ad : Nat → Nat) (s : eS) (a1 : Int32) (a2 : Int32) (a3 : Int32) (a4 : Int32)  {r : Unit} {s' : eS} (h : f_M_perform a1 a2 a3 a4 s = some (r, s')) (sz : Nat) : Met l y_M_perform (Cond.code y_M_perform prog_6_method_16_code 6 none :: WS) rm_M_perform (Px (wM dI ad) D vwCl (tyM dI) [] sz s [.ref (ad 0), .int a1, .int a2, .int a3, .int a4]) (Qx rvV (wM dI ad) D vwCl (tyM dI) (va_A ((wM dI ad) s) sz) r s') 0 0 (va_A ((wM dI ad) s) sz) :=
  met_of [.ref (ad 0), .int a1, .int a2, .int a3, .int a4] (by decide) rfl rfl (Nat.le_of_ble_eq_true rfl) h (fun p e s0 m args below meth c A ls X hl => t_M_perform X a1 a2 a3 a4 s ls  hl)
set_option maxHeartbeats 4000000 in
set_option maxRecDepth 100000 in
theorem t_M_system {p : Program} {l : Launch} {e : Env} {s0 : State} {m : MethodId} {args : Array Value} {below : List Frame} {meth : Method} {c : Code} {D : va_G} {A : Nat → Prop} {dI : Nat → ClassId} {ad : Nat → Nat} (X : CX p s0 m args meth c D vwCl (tyM dI) [] A prog_6_method_13_code 5 (some .int) (Cond.code y_M_system prog_6_method_13_code 5 (some .int) :: WS) R_M) (a1 : Int32) (a2 : Int32) (a3 : Int32) (a4 : Int32) (s : eS) (ls : Array Slot)  (hl : lv_has ls 5 [(0, .ref (ad 0)), (1, .int a1), (2, .int a2), (3, .int a3), (4, .int a4)]) : GG p l e rm_M_system s0 m args below meth c D vwCl (tyM dI) A (wM dI ad) 0 0 (QM below args s0 D vwCl (tyM dI) A (wM dI ad) rvI) (f_M_system a1 a2 a3 a4 s) (F0 m 0 ls []) s := by
  unfold f_M_system
  refine gg_iload_n X 0 d_M_system_0 rfl (lv_at hl 1 rfl) ?_
  refine gg_iconst X 1 (1 : Int32) d_M_system_1 (by decide) ?_
  refine gg_isub X 2 d_M_system_2 ?_
  refine gg_bipush X 3 (10 : Int32) d_M_system_3 (by decide) ?_
  refine gg_callS X 5 nwOk_M [.int (a1 - (1 : Int32)), .int (10 : Int32)] [] (fun _ _ h sz => M_M_outside l D dI ad _ (a1 - (1 : Int32)) (10 : Int32)  h sz) (cwS 2 X.1.2.2.2.2 (gwS w_437 w_438 w_5 w_439) rfl rfl rfl (by decide +kernel) ⟨by decide, by decide⟩) rfl hl.1 rfl (Nat.le_of_ble_eq_true rfl) ⟨Nat.zero_le _, Nat.zero_le _⟩ d_M_system_5 (fun r1 s2 ho3 => ?_)
  refine gg_show_i ?_
  refine gg_if_eq X 8 13 d_M_system_8 rfl (fun _ => ?_) (fun _ => ?_)
  · refine gg_iload_n X 13 d_M_system_13 rfl (lv_at hl 1 rfl) ?_
    refine gg_iload_n X 14 d_M_system_14 rfl (lv_at hl 2 rfl) ?_
    refine gg_iload_n X 15 d_M_system_15 rfl (lv_at hl 3 rfl) ?_
    refine gg_iload X 16 d_M_system_16 (lv_at hl 4 rfl) ?_
    refine gg_callS X 18 nwOk_M [.int a1, .int a2, .int a3, .int a4] [] (fun _ _ h sz => M_M_bad l D dI ad _ a1 a2 a3 a4  h sz) (cwS 4 X.1.2.2.2.2 (gwS w_480 w_481 w_5 w_482) rfl rfl rfl (by decide +kernel) ⟨by decide, by decide⟩) rfl hl.1 rfl (Nat.le_of_ble_eq_true rfl) ⟨Nat.zero_le _, Nat.zero_le _⟩ d_M_system_18 (fun r4 s5 ho6 => ?_)
    refine gg_show_i ?_
    refine gg_if_eq X 21 27 d_M_system_21 rfl (fun _ => ?_) (fun _ => ?_)
    · refine gg_aload_n X 27 d_M_system_27 rfl (lv_at hl 0 rfl) ?_
      refine gg_iload_n X 28 d_M_system_28 rfl (lv_at hl 1 rfl) ?_
      refine gg_iload_n X 29 d_M_system_29 rfl (lv_at hl 2 rfl) ?_
      refine gg_iload_n X 30 d_M_system_30 rfl (lv_at hl 3 rfl) ?_
      refine gg_callV X 31 nwOk_M [.int a1, .int a2, .int a3] [] (fun _ _ h sz => M_M_wrongState l D dI ad _ a1 a2 a3  h sz) (cwV 3 X.1.2.2.2.2 (gwV w_483 w_485 ws_M_wrongState w_5 w_486) rfl rfl rfl (by decide +kernel) ⟨by decide, by decide⟩) (he_M_Main) rfl rfl hl.1 rfl (Nat.le_of_ble_eq_true rfl) ⟨Nat.zero_le _, Nat.zero_le _⟩ d_M_system_31 (fun r7 s8 ho9 => ?_)
      refine gg_show_i ?_
      refine gg_if_eq X 34 40 d_M_system_34 rfl (fun _ => ?_) (fun _ => ?_)
      · refine gg_aload_n X 40 d_M_system_40 rfl (lv_at hl 0 rfl) ?_
        refine gg_iload_n X 41 d_M_system_41 rfl (lv_at hl 1 rfl) ?_
        refine gg_iload_n X 42 d_M_system_42 rfl (lv_at hl 2 rfl) ?_
        refine gg_iload_n X 43 d_M_system_43 rfl (lv_at hl 3 rfl) ?_
        refine gg_iload X 44 d_M_system_44 (lv_at hl 4 rfl) ?_
        refine gg_callV X 46 nwOk_M [.int a1, .int a2, .int a3, .int a4] [] (fun _ _ h sz => M_M_taken l D dI ad _ a1 a2 a3 a4  h sz) (cwV 4 X.1.2.2.2.2 (gwV w_487 w_489 ws_M_taken w_5 w_490) rfl rfl rfl (by decide +kernel) ⟨by decide, by decide⟩) (he_M_Main) rfl rfl hl.1 rfl (Nat.le_of_ble_eq_true rfl) ⟨Nat.zero_le _, Nat.zero_le _⟩ d_M_system_46 (fun r10 s11 ho12 => ?_)
        refine gg_show_i ?_
        refine gg_if_eq X 49 55 d_M_system_49 rfl (fun _ => ?_) (fun _ => ?_)
        · refine gg_aload_n X 55 d_M_system_55 rfl (lv_at hl 0 rfl) ?_
          refine gg_iload_n X 56 d_M_system_56 rfl (lv_at hl 1 rfl) ?_
          refine gg_iload_n X 57 d_M_system_57 rfl (lv_at hl 2 rfl) ?_
          refine gg_callV X 58 nwOk_M [.int a1, .int a2] [] (fun _ _ h sz => M_M_full l D dI ad _ a1 a2  h sz) (cwV 2 X.1.2.2.2.2 (gwV w_491 w_493 ws_M_full w_5 w_494) rfl rfl rfl (by decide +kernel) ⟨by decide, by decide⟩) (he_M_Main) rfl rfl hl.1 rfl (Nat.le_of_ble_eq_true rfl) ⟨Nat.zero_le _, Nat.zero_le _⟩ d_M_system_58 (fun r13 s14 ho15 => ?_)
          refine gg_show_i ?_
          refine gg_if_eq X 61 67 d_M_system_61 rfl (fun _ => ?_) (fun _ => ?_)
          · refine gg_iload_n X 67 d_M_system_67 rfl (lv_at hl 1 rfl) ?_
            refine gg_iconst X 68 (1 : Int32) d_M_system_68 (by decide) ?_
            refine gg_icmp_ne X 69 79 d_M_system_69 rfl (fun _ => ?_) (fun _ => ?_)
            · refine gg_iload_n X 79 d_M_system_79 rfl (lv_at hl 1 rfl) ?_
              refine gg_iconst X 80 (3 : Int32) d_M_system_80 (by decide) ?_
              refine gg_icmp_ne X 81 111 d_M_system_81 rfl (fun _ => ?_) (fun _ => ?_)
              · refine gg_aload_n X 111 d_M_system_111 rfl (lv_at hl 0 rfl) ?_
                refine gg_iload_n X 112 d_M_system_112 rfl (lv_at hl 1 rfl) ?_
                refine gg_iload_n X 113 d_M_system_113 rfl (lv_at hl 2 rfl) ?_
                refine gg_iload_n X 114 d_M_system_114 rfl (lv_at hl 3 rfl) ?_
                refine gg_iload X 115 d_M_system_115 (lv_at hl 4 rfl) ?_
                refine gg_callV X 117 nwOk_M [.int a1, .int a2, .int a3, .int a4] [] (fun _ _ h sz => M_M_perform l D dI ad _ a1 a2 a3 a4  h sz) (cwV 4 X.1.2.2.2.2 (gwV w_511 w_513 ws_M_perform w_5 w_514) rfl rfl rfl (by decide +kernel) ⟨by decide, by decide⟩) (he_M_Main) rfl rfl hl.1 rfl (Nat.le_of_ble_eq_true rfl) ⟨Nat.zero_le _, Nat.zero_le _⟩ d_M_system_117 (fun r16 s17 ho18 => ?_)
                refine gg_show_v ?_
                refine gg_iconst X 120 (0 : Int32) d_M_system_120 (by decide) ?_
                exact gg_iret X 121 d_M_system_121
              · refine gg_aload_n X 84 d_M_system_84 rfl (lv_at hl 0 rfl) ?_
                refine gg_iload_n X 85 d_M_system_85 rfl (lv_at hl 2 rfl) ?_
                refine gg_iconst X 86 (0 : Int32) d_M_system_86 (by decide) ?_
                refine gg_callV X 87 nwOk_M [.int a2, .int (0 : Int32)] [] (fun _ _ h sz => M_M_thread l D dI ad _ a2 (0 : Int32)  h sz) (cwV 2 X.1.2.2.2.2 (gwV w_503 w_504 w_505 w_5 w_506) rfl rfl rfl (by decide +kernel) ⟨by decide, by decide⟩) (he_M_Main) rfl rfl hl.1 rfl (Nat.le_of_ble_eq_true rfl) ⟨Nat.zero_le _, Nat.zero_le _⟩ d_M_system_87 (fun r19 s20 ho21 => ?_)
                refine gg_show_i ?_
                refine gg_if_ne X 90 103 d_M_system_90 rfl (fun _ => ?_) (fun _ => ?_)
                · refine gg_aload_n X 103 d_M_system_103 rfl (lv_at hl 0 rfl) ?_
                  refine gg_iload_n X 104 d_M_system_104 rfl (lv_at hl 2 rfl) ?_
                  refine gg_iconst X 105 (1 : Int32) d_M_system_105 (by decide) ?_
                  refine gg_iload_n X 106 d_M_system_106 rfl (lv_at hl 3 rfl) ?_
                  refine gg_callV X 107 nwOk_M [.int a2, .int (1 : Int32), .int a3] [] (fun _ _ h sz => M_M_append l D dI ad _ a2 (1 : Int32) a3  h sz) (cwV 3 X.1.2.2.2.2 (gwV w_507 w_509 ws_M_append w_5 w_510) rfl rfl rfl (by decide +kernel) ⟨by decide, by decide⟩) (he_M_Main) rfl rfl hl.1 rfl (Nat.le_of_ble_eq_true rfl) ⟨Nat.zero_le _, Nat.zero_le _⟩ d_M_system_107 (fun r22 s23 ho24 => ?_)
                  refine gg_show_i ?_
                  exact gg_iret X 110 d_M_system_110
                · refine gg_aload_n X 93 d_M_system_93 rfl (lv_at hl 0 rfl) ?_
                  refine gg_iload_n X 94 d_M_system_94 rfl (lv_at hl 2 rfl) ?_
                  refine gg_iconst X 95 (0 : Int32) d_M_system_95 (by decide) ?_
                  refine gg_iload_n X 96 d_M_system_96 rfl (lv_at hl 3 rfl) ?_
                  refine gg_callV X 97 nwOk_M [.int a2, .int (0 : Int32), .int a3] [] (fun _ _ h sz => M_M_append l D dI ad _ a2 (0 : Int32) a3  h sz) (cwV 3 X.1.2.2.2.2 (gwV w_507 w_509 ws_M_append w_5 w_510) rfl rfl rfl (by decide +kernel) ⟨by decide, by decide⟩) (he_M_Main) rfl rfl hl.1 rfl (Nat.le_of_ble_eq_true rfl) ⟨Nat.zero_le _, Nat.zero_le _⟩ d_M_system_97 (fun r25 s26 ho27 => ?_)
                  refine gg_show_i ?_
                  refine gg_goto X 100 110 d_M_system_100 rfl ?_
                  exact gg_iret X 110 d_M_system_110
            · refine gg_aload_n X 72 d_M_system_72 rfl (lv_at hl 0 rfl) ?_
              refine gg_iload_n X 73 d_M_system_73 rfl (lv_at hl 2 rfl) ?_
              refine gg_iload_n X 74 d_M_system_74 rfl (lv_at hl 3 rfl) ?_
              refine gg_callV X 75 nwOk_M [.int a2, .int a3] [] (fun _ _ h sz => M_M_create l D dI ad _ a2 a3  h sz) (cwV 2 X.1.2.2.2.2 (gwV w_495 w_497 ws_M_create w_5 w_498) rfl rfl rfl (by decide +kernel) ⟨by decide, by decide⟩) (he_M_Main) rfl rfl hl.1 rfl (Nat.le_of_ble_eq_true rfl) ⟨Nat.zero_le _, Nat.zero_le _⟩ d_M_system_75 (fun r28 s29 ho30 => ?_)
              refine gg_show_i ?_
              exact gg_iret X 78 d_M_system_78
          · refine gg_bipush X 64 (-5 : Int32) d_M_system_64 (by decide) ?_
            exact gg_iret X 66 d_M_system_66
        · refine gg_bipush X 52 (-4 : Int32) d_M_system_52 (by decide) ?_
          exact gg_iret X 54 d_M_system_54
      · refine gg_bipush X 37 (-3 : Int32) d_M_system_37 (by decide) ?_
        exact gg_iret X 39 d_M_system_39
    · refine gg_bipush X 24 (-2 : Int32) d_M_system_24 (by decide) ?_
      exact gg_iret X 26 d_M_system_26
  · refine gg_iconst X 11 (-1 : Int32) d_M_system_11 (by decide) ?_
    exact gg_iret X 12 d_M_system_12
theorem M_M_system (l : Launch) (D : va_G) (dI : Nat → ClassId) (ad : Nat → Nat) (s : eS) (a1 : Int32) (a2 : Int32) (a3 : Int32) (a4 : Int32)  {r : Int32} {s' : eS} (h : f_M_system a1 a2 a3 a4 s = some (r, s')) (sz : Nat) : Met l y_M_system (Cond.code y_M_system prog_6_method_13_code 5 (some .int) :: WS) rm_M_system (Px (wM dI ad) D vwCl (tyM dI) [] sz s [.ref (ad 0), .int a1, .int a2, .int a3, .int a4]) (Qx rvI (wM dI ad) D vwCl (tyM dI) (va_A ((wM dI ad) s) sz) r s') 0 0 (va_A ((wM dI ad) s) sz) :=
  met_of [.ref (ad 0), .int a1, .int a2, .int a3, .int a4] (by decide) rfl rfl (Nat.le_of_ble_eq_true rfl) h (fun p e s0 m args below meth c A ls X hl => t_M_system X a1 a2 a3 a4 s ls  hl)
set_option maxHeartbeats 4000000 in
set_option maxRecDepth 100000 in
theorem t_M_leave {p : Program} {l : Launch} {e : Env} {s0 : State} {m : MethodId} {args : Array Value} {below : List Frame} {meth : Method} {c : Code} {D : va_G} {A : Nat → Prop} {dI : Nat → ClassId} {ad : Nat → Nat} (X : CX p s0 m args meth c D vwCl (tyM dI) [] A prog_6_method_20_code 3 none (Cond.code y_M_leave prog_6_method_20_code 3 none :: WS) R_M) (a1 : Int32) (a2 : Int32) (s : eS) (ls : Array Slot)  (hl : lv_has ls 3 [(0, .ref (ad 0)), (1, .int a1), (2, .int a2)]) : GG p l e rm_M_leave s0 m args below meth c D vwCl (tyM dI) A (wM dI ad) 0 0 (QM below args s0 D vwCl (tyM dI) A (wM dI ad) rvV) (f_M_leave a1 a2 s) (F0 m 0 ls []) s := by
  unfold f_M_leave
  refine gg_aload_n X 0 d_M_leave_0 rfl (lv_at hl 0 rfl) ?_
  refine gg_dup X 1 d_M_leave_1 rfl ?_
  refine gg_get_M_exits X 2 (Or.inl (List.mem_cons_of_mem _ w_376)) d_M_leave_2 ?_
  refine gg_iconst X 5 (1 : Int32) d_M_leave_5 (by decide) ?_
  refine gg_iadd X 6 d_M_leave_6 ?_
  refine gg_put_M_exits X 7 (Or.inl (List.mem_cons_of_mem _ w_376)) d_M_leave_7 (fun s1 => ?_)
  refine gg_aload_n X 10 d_M_leave_10 rfl (lv_at hl 0 rfl) ?_
  refine gg_aload_n X 11 d_M_leave_11 rfl (lv_at hl 0 rfl) ?_
  refine gg_get_M_who X 12 (Or.inl (List.mem_cons_of_mem _ w_372)) d_M_leave_12 ?_
  refine gg_iconst X 15 (2 : Int32) d_M_leave_15 (by decide) ?_
  refine gg_idivk X 16 d_M_leave_16 (by decide) ?_
  refine gg_put_M_exitEnclave X 17 (Or.inl (List.mem_cons_of_mem _ w_377)) d_M_leave_17 (fun s2 => ?_)
  refine gg_aload_n X 20 d_M_leave_20 rfl (lv_at hl 0 rfl) ?_
  refine gg_iload_n X 21 d_M_leave_21 rfl (lv_at hl 1 rfl) ?_
  refine gg_put_M_exitKind X 22 (Or.inl (List.mem_cons_of_mem _ w_378)) d_M_leave_22 (fun s3 => ?_)
  refine gg_aload_n X 25 d_M_leave_25 rfl (lv_at hl 0 rfl) ?_
  refine gg_iload_n X 26 d_M_leave_26 rfl (lv_at hl 2 rfl) ?_
  refine gg_put_M_exitValue X 27 (Or.inl (List.mem_cons_of_mem _ w_379)) d_M_leave_27 (fun s4 => ?_)
  refine gg_aload_n X 30 d_M_leave_30 rfl (lv_at hl 0 rfl) ?_
  refine gg_aload_n X 31 d_M_leave_31 rfl (lv_at hl 0 rfl) ?_
  refine gg_get_M_ticks X 32 (Or.inl (List.mem_cons_of_mem _ w_375)) d_M_leave_32 ?_
  refine gg_put_M_exitTick X 35 (Or.inl (List.mem_cons_of_mem _ w_380)) d_M_leave_35 (fun s5 => ?_)
  refine gg_aload_n X 38 d_M_leave_38 rfl (lv_at hl 0 rfl) ?_
  refine gg_bipush X 39 (6 : Int32) d_M_leave_39 (by decide) ?_
  refine gg_put_M_who X 41 (Or.inl (List.mem_cons_of_mem _ w_372)) d_M_leave_41 (fun s6 => ?_)
  refine gg_aload_n X 44 d_M_leave_44 rfl (lv_at hl 0 rfl) ?_
  refine gg_get_M_reg X 45 (Or.inl (List.mem_cons_of_mem _ w_370)) d_M_leave_45 ?_
  refine gg_bipush X 48 (49 : Int32) d_M_leave_48 (by decide) ?_
  refine gg_iload_n X 50 d_M_leave_50 rfl (lv_at hl 1 rfl) ?_
  refine gg_ast_A_reg X 51 d_M_leave_51 (fun s7 => ?_)
  refine gg_aload_n X 52 d_M_leave_52 rfl (lv_at hl 0 rfl) ?_
  refine gg_get_M_reg X 53 (Or.inl (List.mem_cons_of_mem _ w_370)) d_M_leave_53 ?_
  refine gg_bipush X 56 (50 : Int32) d_M_leave_56 (by decide) ?_
  refine gg_iload_n X 58 d_M_leave_58 rfl (lv_at hl 2 rfl) ?_
  refine gg_ast_A_reg X 59 d_M_leave_59 (fun s8 => ?_)
  exact gg_vret X 60 d_M_leave_60
theorem M_M_leave (l : Launch) (D : va_G) (dI : Nat → ClassId) (ad : Nat → Nat) (s : eS) (a1 : Int32) (a2 : Int32)  {r : Unit} {s' : eS} (h : f_M_leave a1 a2 s = some (r, s')) (sz : Nat) : Met l y_M_leave (Cond.code y_M_leave prog_6_method_20_code 3 none :: WS) rm_M_leave (Px (wM dI ad) D vwCl (tyM dI) [] sz s [.ref (ad 0), .int a1, .int a2]) (Qx rvV (wM dI ad) D vwCl (tyM dI) (va_A ((wM dI ad) s) sz) r s') 0 0 (va_A ((wM dI ad) s) sz) :=
  met_of [.ref (ad 0), .int a1, .int a2] (by decide) rfl rfl (Nat.le_of_ble_eq_true rfl) h (fun p e s0 m args below meth c A ls X hl => t_M_leave X a1 a2 s ls  hl)
set_option maxHeartbeats 4000000 in
set_option maxRecDepth 100000 in
theorem t_M_fault {p : Program} {l : Launch} {e : Env} {s0 : State} {m : MethodId} {args : Array Value} {below : List Frame} {meth : Method} {c : Code} {D : va_G} {A : Nat → Prop} {dI : Nat → ClassId} {ad : Nat → Nat} (X : CX p s0 m args meth c D vwCl (tyM dI) [] A prog_6_method_21_code 2 none (Cond.code y_M_fault prog_6_method_21_code 2 none :: WS) R_M) (a1 : Int32) (s : eS) (ls : Array Slot)  (hl : lv_has ls 2 [(0, .ref (ad 0)), (1, .int a1)]) : GG p l e rm_M_fault s0 m args below meth c D vwCl (tyM dI) A (wM dI ad) 0 0 (QM below args s0 D vwCl (tyM dI) A (wM dI ad) rvV) (f_M_fault a1 s) (F0 m 0 ls []) s := by
  unfold f_M_fault
  refine gg_aload_n X 0 d_M_fault_0 rfl (lv_at hl 0 rfl) ?_
  refine gg_get_M_who X 1 (Or.inl (List.mem_cons_of_mem _ w_372)) d_M_fault_1 ?_
  refine gg_bipush X 4 (6 : Int32) d_M_fault_4 (by decide) ?_
  refine gg_icmp_ne X 6 17 d_M_fault_6 rfl (fun _ => ?_) (fun _ => ?_)
  · refine gg_aload_n X 17 d_M_fault_17 rfl (lv_at hl 0 rfl) ?_
    refine gg_get_M_phase X 18 (Or.inl (List.mem_cons_of_mem _ w_368)) d_M_fault_18 ?_
    refine gg_aload_n X 21 d_M_fault_21 rfl (lv_at hl 0 rfl) ?_
    refine gg_get_M_who X 22 (Or.inl (List.mem_cons_of_mem _ w_372)) d_M_fault_22 ?_
    refine gg_iconst X 25 (1 : Int32) d_M_fault_25 (by decide) ?_
    refine gg_ast_A_phase X 26 d_M_fault_26 (fun s1 => ?_)
    refine gg_aload_n X 27 d_M_fault_27 rfl (lv_at hl 0 rfl) ?_
    refine gg_iload_n X 28 d_M_fault_28 rfl (lv_at hl 1 rfl) ?_
    refine gg_iconst X 29 (0 : Int32) d_M_fault_29 (by decide) ?_
    refine gg_callV X 30 nwOk_M [.int a1, .int (0 : Int32)] [] (fun _ _ h sz => M_M_leave l D dI ad _ a1 (0 : Int32)  h sz) (cwV 2 X.1.2.2.2.2 (gwV w_535 w_537 ws_M_leave w_5 w_538) rfl rfl rfl (by decide +kernel) ⟨by decide, by decide⟩) (he_M_Main) rfl rfl hl.1 rfl (Nat.le_of_ble_eq_true rfl) ⟨Nat.zero_le _, Nat.zero_le _⟩ d_M_fault_30 (fun r2 s3 ho4 => ?_)
    refine gg_show_v ?_
    exact gg_vret X 33 d_M_fault_33
  · refine gg_aload_n X 9 d_M_fault_9 rfl (lv_at hl 0 rfl) ?_
    refine gg_iconst X 10 (1 : Int32) d_M_fault_10 (by decide) ?_
    refine gg_put_M_stopped X 11 (Or.inl (List.mem_cons_of_mem _ w_373)) rfl rfl d_M_fault_11 (fun s5 => ?_)
    refine gg_goto X 14 33 d_M_fault_14 rfl ?_
    exact gg_vret X 33 d_M_fault_33
theorem M_M_fault (l : Launch) (D : va_G) (dI : Nat → ClassId) (ad : Nat → Nat) (s : eS) (a1 : Int32)  {r : Unit} {s' : eS} (h : f_M_fault a1 s = some (r, s')) (sz : Nat) : Met l y_M_fault (Cond.code y_M_fault prog_6_method_21_code 2 none :: WS) rm_M_fault (Px (wM dI ad) D vwCl (tyM dI) [] sz s [.ref (ad 0), .int a1]) (Qx rvV (wM dI ad) D vwCl (tyM dI) (va_A ((wM dI ad) s) sz) r s') 0 0 (va_A ((wM dI ad) s) sz) :=
  met_of [.ref (ad 0), .int a1] (by decide) rfl rfl (Nat.le_of_ble_eq_true rfl) h (fun p e s0 m args below meth c A ls X hl => t_M_fault X a1 s ls  hl)
set_option maxHeartbeats 4000000 in
set_option maxRecDepth 100000 in
theorem t_M_put {p : Program} {l : Launch} {e : Env} {s0 : State} {m : MethodId} {args : Array Value} {below : List Frame} {meth : Method} {c : Code} {D : va_G} {A : Nat → Prop} {dI : Nat → ClassId} {ad : Nat → Nat} (X : CX p s0 m args meth c D vwCl (tyM dI) [] A prog_6_method_23_code 3 none (Cond.code y_M_put prog_6_method_23_code 3 none :: WS) R_M) (a1 : Int32) (a2 : Int32) (s : eS) (ls : Array Slot)  (hl : lv_has ls 3 [(0, .ref (ad 0)), (1, .int a1), (2, .int a2)]) : GG p l e rm_M_put s0 m args below meth c D vwCl (tyM dI) A (wM dI ad) 0 0 (QM below args s0 D vwCl (tyM dI) A (wM dI ad) rvV) (f_M_put a1 a2 s) (F0 m 0 ls []) s := by
  unfold f_M_put
  refine gg_iload_n X 0 d_M_put_0 rfl (lv_at hl 1 rfl) ?_
  refine gg_if_le X 1 19 d_M_put_1 rfl (fun _ => ?_) (fun _ => ?_)
  · exact gg_vret X 19 d_M_put_19
  · refine gg_aload_n X 4 d_M_put_4 rfl (lv_at hl 0 rfl) ?_
    refine gg_get_M_reg X 5 (Or.inl (List.mem_cons_of_mem _ w_370)) d_M_put_5 ?_
    refine gg_bipush X 8 (8 : Int32) d_M_put_8 (by decide) ?_
    refine gg_aload_n X 10 d_M_put_10 rfl (lv_at hl 0 rfl) ?_
    refine gg_get_M_who X 11 (Or.inl (List.mem_cons_of_mem _ w_372)) d_M_put_11 ?_
    refine gg_imul X 14 d_M_put_14 ?_
    refine gg_iload_n X 15 d_M_put_15 rfl (lv_at hl 1 rfl) ?_
    refine gg_iadd X 16 d_M_put_16 ?_
    refine gg_iload_n X 17 d_M_put_17 rfl (lv_at hl 2 rfl) ?_
    refine gg_ast_A_reg X 18 d_M_put_18 (fun s1 => ?_)
    exact gg_vret X 19 d_M_put_19
theorem M_M_put (l : Launch) (D : va_G) (dI : Nat → ClassId) (ad : Nat → Nat) (s : eS) (a1 : Int32) (a2 : Int32)  {r : Unit} {s' : eS} (h : f_M_put a1 a2 s = some (r, s')) (sz : Nat) : Met l y_M_put (Cond.code y_M_put prog_6_method_23_code 3 none :: WS) rm_M_put (Px (wM dI ad) D vwCl (tyM dI) [] sz s [.ref (ad 0), .int a1, .int a2]) (Qx rvV (wM dI ad) D vwCl (tyM dI) (va_A ((wM dI ad) s) sz) r s') 0 0 (va_A ((wM dI ad) s) sz) :=
  met_of [.ref (ad 0), .int a1, .int a2] (by decide) rfl rfl (Nat.le_of_ble_eq_true rfl) h (fun p e s0 m args below meth c A ls X hl => t_M_put X a1 a2 s ls  hl)
set_option maxHeartbeats 4000000 in
set_option maxRecDepth 100000 in
theorem t_M_access_56 {p : Program} {l : Launch} {e : Env} {s0 : State} {m : MethodId} {args : Array Value} {below : List Frame} {meth : Method} {c : Code} {D : va_G} {A : Nat → Prop} {dI : Nat → ClassId} {ad : Nat → Nat} (X : CX p s0 m args meth c D vwCl (tyM dI) [] A prog_6_method_24_code 4 none (Cond.code y_M_access prog_6_method_24_code 4 none :: WS) R_M)  (s : eS) (ls : Array Slot)  (hl : lv_has ls 4 [(0, .ref (ad 0))]) : GG p l e rm_M_access s0 m args below meth c D vwCl (tyM dI) A (wM dI ad) 0 0 (QM below args s0 D vwCl (tyM dI) A (wM dI ad) rvV) (f_M_access_56 s) (F0 m 56 ls []) s := by
  unfold f_M_access_56
  refine gg_aload_n X 56 d_M_access_56 rfl (lv_at hl 0 rfl) ?_
  refine gg_get_M_place X 57 (Or.inl (List.mem_cons_of_mem _ w_371)) d_M_access_57 ?_
  refine gg_aload_n X 60 d_M_access_60 rfl (lv_at hl 0 rfl) ?_
  refine gg_get_M_who X 61 (Or.inl (List.mem_cons_of_mem _ w_372)) d_M_access_61 ?_
  refine gg_aload_n X 64 d_M_access_64 rfl (lv_at hl 0 rfl) ?_
  refine gg_get_M_place X 65 (Or.inl (List.mem_cons_of_mem _ w_371)) d_M_access_65 ?_
  refine gg_aload_n X 68 d_M_access_68 rfl (lv_at hl 0 rfl) ?_
  refine gg_get_M_who X 69 (Or.inl (List.mem_cons_of_mem _ w_372)) d_M_access_69 ?_
  refine gg_ald_A_place X 72 d_M_access_72 ?_
  refine gg_iconst X 73 (1 : Int32) d_M_access_73 (by decide) ?_
  refine gg_iadd X 74 d_M_access_74 ?_
  refine gg_ast_A_place X 75 d_M_access_75 (fun s1 => ?_)
  exact gg_vret X 76 d_M_access_76
set_option maxHeartbeats 4000000 in
set_option maxRecDepth 100000 in
theorem t_M_access {p : Program} {l : Launch} {e : Env} {s0 : State} {m : MethodId} {args : Array Value} {below : List Frame} {meth : Method} {c : Code} {D : va_G} {A : Nat → Prop} {dI : Nat → ClassId} {ad : Nat → Nat} (X : CX p s0 m args meth c D vwCl (tyM dI) [] A prog_6_method_24_code 4 none (Cond.code y_M_access prog_6_method_24_code 4 none :: WS) R_M) (a1 : Int32) (a2 : Int32) (a3 : Int32) (s : eS) (ls : Array Slot)  (hl : lv_has ls 4 [(0, .ref (ad 0)), (1, .int a1), (2, .int a2), (3, .int a3)]) : GG p l e rm_M_access s0 m args below meth c D vwCl (tyM dI) A (wM dI ad) 0 0 (QM below args s0 D vwCl (tyM dI) A (wM dI ad) rvV) (f_M_access a1 a2 a3 s) (F0 m 0 ls []) s := by
  unfold f_M_access
  refine gg_aload_n X 0 d_M_access_0 rfl (lv_at hl 0 rfl) ?_
  refine gg_aload_n X 1 d_M_access_1 rfl (lv_at hl 0 rfl) ?_
  refine gg_get_M_who X 2 (Or.inl (List.mem_cons_of_mem _ w_372)) d_M_access_2 ?_
  refine gg_iload_n X 5 d_M_access_5 rfl (lv_at hl 3 rfl) ?_
  refine gg_callV X 6 nwOk_M [.int (s 13 1), .int a3] [] (fun _ _ h sz => M_M_uses l D dI ad _ (s 13 1) a3  h sz) (cwV 2 X.1.2.2.2.2 (gwV w_433 w_435 ws_M_uses w_5 w_436) rfl rfl rfl (by decide +kernel) ⟨by decide, by decide⟩) (he_M_Main) rfl rfl hl.1 rfl (Nat.le_of_ble_eq_true rfl) ⟨Nat.zero_le _, Nat.zero_le _⟩ d_M_access_6 (fun r1 s2 ho3 => ?_)
  refine gg_show_i ?_
  refine gg_if_ne X 9 18 d_M_access_9 rfl (fun _ => ?_) (fun _ => ?_)
  · refine gg_iload_n X 18 d_M_access_18 rfl (lv_at hl 1 rfl) ?_
    refine gg_if_eq X 19 36 d_M_access_19 rfl (fun _ => ?_) (fun _ => ?_)
    · refine gg_aload_n X 36 d_M_access_36 rfl (lv_at hl 0 rfl) ?_
      refine gg_get_M_memory X 37 (Or.inl (List.mem_cons_of_mem _ w_359)) d_M_access_37 ?_
      refine gg_iload_n X 40 d_M_access_40 rfl (lv_at hl 3 rfl) ?_
      refine gg_aload_n X 41 d_M_access_41 rfl (lv_at hl 0 rfl) ?_
      refine gg_get_M_reg X 42 (Or.inl (List.mem_cons_of_mem _ w_370)) d_M_access_42 ?_
      refine gg_bipush X 45 (8 : Int32) d_M_access_45 (by decide) ?_
      refine gg_aload_n X 47 d_M_access_47 rfl (lv_at hl 0 rfl) ?_
      refine gg_get_M_who X 48 (Or.inl (List.mem_cons_of_mem _ w_372)) d_M_access_48 ?_
      refine gg_imul X 51 d_M_access_51 ?_
      refine gg_iload_n X 52 d_M_access_52 rfl (lv_at hl 2 rfl) ?_
      refine gg_iadd X 53 d_M_access_53 ?_
      refine gg_ald_A_reg X 54 d_M_access_54 ?_
      refine gg_ast_A_memory X 55 d_M_access_55 (fun s4 => ?_)
      exact t_M_access_56 X s4 _  (lv_sub hl [0] rfl)
    · refine gg_aload_n X 22 d_M_access_22 rfl (lv_at hl 0 rfl) ?_
      refine gg_iload_n X 23 d_M_access_23 rfl (lv_at hl 2 rfl) ?_
      refine gg_aload_n X 24 d_M_access_24 rfl (lv_at hl 0 rfl) ?_
      refine gg_get_M_memory X 25 (Or.inl (List.mem_cons_of_mem _ w_359)) d_M_access_25 ?_
      refine gg_iload_n X 28 d_M_access_28 rfl (lv_at hl 3 rfl) ?_
      refine gg_ald_A_memory X 29 d_M_access_29 ?_
      refine gg_callV X 30 nwOk_M [.int a2, .int (s2 0 (Int32.toNatClampNeg a3))] [] (fun _ _ h sz => M_M_put l D dI ad _ a2 (s2 0 (Int32.toNatClampNeg a3))  h sz) (cwV 2 X.1.2.2.2.2 (gwV w_543 w_545 ws_M_put w_5 w_546) rfl rfl rfl (by decide +kernel) ⟨by decide, by decide⟩) (he_M_Main) rfl rfl hl.1 rfl (Nat.le_of_ble_eq_true rfl) ⟨Nat.zero_le _, Nat.zero_le _⟩ d_M_access_30 (fun r5 s6 ho7 => ?_)
      refine gg_show_v ?_
      refine gg_goto X 33 56 d_M_access_33 rfl ?_
      exact t_M_access_56 X s6 _  (lv_sub hl [0] rfl)
  · refine gg_aload_n X 12 d_M_access_12 rfl (lv_at hl 0 rfl) ?_
    refine gg_iconst X 13 (3 : Int32) d_M_access_13 (by decide) ?_
    refine gg_callV X 14 nwOk_M [.int (3 : Int32)] [] (fun _ _ h sz => M_M_fault l D dI ad _ (3 : Int32)  h sz) (cwV 1 X.1.2.2.2.2 (gwV w_539 w_541 ws_M_fault w_5 w_542) rfl rfl rfl (by decide +kernel) ⟨by decide, by decide⟩) (he_M_Main) rfl rfl hl.1 rfl (Nat.le_of_ble_eq_true rfl) ⟨Nat.zero_le _, Nat.zero_le _⟩ d_M_access_14 (fun r8 s9 ho10 => ?_)
    refine gg_show_v ?_
    exact gg_vret X 17 d_M_access_17
theorem M_M_access (l : Launch) (D : va_G) (dI : Nat → ClassId) (ad : Nat → Nat) (s : eS) (a1 : Int32) (a2 : Int32) (a3 : Int32)  {r : Unit} {s' : eS} (h : f_M_access a1 a2 a3 s = some (r, s')) (sz : Nat) : Met l y_M_access (Cond.code y_M_access prog_6_method_24_code 4 none :: WS) rm_M_access (Px (wM dI ad) D vwCl (tyM dI) [] sz s [.ref (ad 0), .int a1, .int a2, .int a3]) (Qx rvV (wM dI ad) D vwCl (tyM dI) (va_A ((wM dI ad) s) sz) r s') 0 0 (va_A ((wM dI ad) s) sz) :=
  met_of [.ref (ad 0), .int a1, .int a2, .int a3] (by decide) rfl rfl (Nat.le_of_ble_eq_true rfl) h (fun p e s0 m args below meth c A ls X hl => t_M_access X a1 a2 a3 s ls  hl)
set_option maxHeartbeats 4000000 in
set_option maxRecDepth 100000 in
theorem t_M_ask_216 {p : Program} {l : Launch} {e : Env} {s0 : State} {m : MethodId} {args : Array Value} {below : List Frame} {meth : Method} {c : Code} {D : va_G} {A : Nat → Prop} {dI : Nat → ClassId} {ad : Nat → Nat} (X : CX p s0 m args meth c D vwCl (tyM dI) [] A prog_6_method_25_code 6 none (Cond.code y_M_ask prog_6_method_25_code 6 none :: WS) R_M) (x5 : Int32) (s : eS) (ls : Array Slot)  (hl : lv_has ls 6 [(0, .ref (ad 0)), (5, .int x5)]) : GG p l e rm_M_ask s0 m args below meth c D vwCl (tyM dI) A (wM dI ad) 0 0 (QM below args s0 D vwCl (tyM dI) A (wM dI ad) rvV) (f_M_ask_216 x5 s) (F0 m 216 ls []) s := by
  unfold f_M_ask_216
  refine gg_aload_n X 216 d_M_ask_216 rfl (lv_at hl 0 rfl) ?_
  refine gg_iconst X 217 (1 : Int32) d_M_ask_217 (by decide) ?_
  refine gg_iload X 218 d_M_ask_218 (lv_at hl 1 rfl) ?_
  refine gg_callV X 220 nwOk_M [.int (1 : Int32), .int x5] [] (fun _ _ h sz => M_M_put l D dI ad _ (1 : Int32) x5  h sz) (cwV 2 X.1.2.2.2.2 (gwV w_543 w_545 ws_M_put w_5 w_546) rfl rfl rfl (by decide +kernel) ⟨by decide, by decide⟩) (he_M_Main) rfl rfl hl.1 rfl (Nat.le_of_ble_eq_true rfl) ⟨Nat.zero_le _, Nat.zero_le _⟩ d_M_ask_220 (fun r1 s2 ho3 => ?_)
  refine gg_show_v ?_
  exact gg_vret X 223 d_M_ask_223
set_option maxHeartbeats 4000000 in
set_option maxRecDepth 100000 in
theorem t_M_ask_214 {p : Program} {l : Launch} {e : Env} {s0 : State} {m : MethodId} {args : Array Value} {below : List Frame} {meth : Method} {c : Code} {D : va_G} {A : Nat → Prop} {dI : Nat → ClassId} {ad : Nat → Nat} (X : CX p s0 m args meth c D vwCl (tyM dI) [] A prog_6_method_25_code 6 none (Cond.code y_M_ask prog_6_method_25_code 6 none :: WS) R_M) (y0 : Int32) (s : eS) (ls : Array Slot)  (hl : lv_has ls 6 [(0, .ref (ad 0))]) : GG p l e rm_M_ask s0 m args below meth c D vwCl (tyM dI) A (wM dI ad) 0 0 (QM below args s0 D vwCl (tyM dI) A (wM dI ad) rvV) (f_M_ask_214 y0 s) (F0 m 214 ls [.int y0]) s := by
  unfold f_M_ask_214
  refine gg_istore X 214 (fun v1 => [(5, .int v1), (0, .ref (ad 0))]) d_M_ask_214 hl (by decide) (fun _ => rfl) (fun v1 ls hl => ?_)
  exact t_M_ask_216 X v1 s _  (lv_sub hl [1, 0] rfl)
set_option maxHeartbeats 4000000 in
set_option maxRecDepth 100000 in
theorem t_M_ask {p : Program} {l : Launch} {e : Env} {s0 : State} {m : MethodId} {args : Array Value} {below : List Frame} {meth : Method} {c : Code} {D : va_G} {A : Nat → Prop} {dI : Nat → ClassId} {ad : Nat → Nat} (X : CX p s0 m args meth c D vwCl (tyM dI) [] A prog_6_method_25_code 6 none (Cond.code y_M_ask prog_6_method_25_code 6 none :: WS) R_M) (a1 : Int32) (s : eS) (ls : Array Slot)  (hl : lv_has ls 6 [(0, .ref (ad 0)), (1, .int a1)]) : GG p l e rm_M_ask s0 m args below meth c D vwCl (tyM dI) A (wM dI ad) 0 0 (QM below args s0 D vwCl (tyM dI) A (wM dI ad) rvV) (f_M_ask a1 s) (F0 m 0 ls []) s := by
  unfold f_M_ask
  refine gg_aload_n X 0 d_M_ask_0 rfl (lv_at hl 0 rfl) ?_
  refine gg_get_M_reg X 1 (Or.inl (List.mem_cons_of_mem _ w_370)) d_M_ask_1 ?_
  refine gg_bipush X 4 (8 : Int32) d_M_ask_4 (by decide) ?_
  refine gg_aload_n X 6 d_M_ask_6 rfl (lv_at hl 0 rfl) ?_
  refine gg_get_M_who X 7 (Or.inl (List.mem_cons_of_mem _ w_372)) d_M_ask_7 ?_
  refine gg_imul X 10 d_M_ask_10 ?_
  refine gg_iconst X 11 (1 : Int32) d_M_ask_11 (by decide) ?_
  refine gg_iadd X 12 d_M_ask_12 ?_
  refine gg_ald_A_reg X 13 d_M_ask_13 ?_
  refine gg_istore_n X 14 (fun v1 => [(2, .int v1), (0, .ref (ad 0)), (1, .int a1)]) d_M_ask_14 rfl hl (by decide) (fun _ => rfl) (fun v1 ls hl => ?_)
  refine gg_aload_n X 15 d_M_ask_15 rfl (lv_at hl 1 rfl) ?_
  refine gg_get_M_reg X 16 (Or.inl (List.mem_cons_of_mem _ w_370)) d_M_ask_16 ?_
  refine gg_bipush X 19 (8 : Int32) d_M_ask_19 (by decide) ?_
  refine gg_aload_n X 21 d_M_ask_21 rfl (lv_at hl 1 rfl) ?_
  refine gg_get_M_who X 22 (Or.inl (List.mem_cons_of_mem _ w_372)) d_M_ask_22 ?_
  refine gg_imul X 25 d_M_ask_25 ?_
  refine gg_iconst X 26 (2 : Int32) d_M_ask_26 (by decide) ?_
  refine gg_iadd X 27 d_M_ask_27 ?_
  refine gg_ald_A_reg X 28 d_M_ask_28 ?_
  refine gg_istore_n X 29 (fun v2 => [(3, .int v2), (2, .int v1), (0, .ref (ad 0)), (1, .int a1)]) d_M_ask_29 rfl hl (by decide) (fun _ => rfl) (fun v2 ls hl => ?_)
  refine gg_aload_n X 30 d_M_ask_30 rfl (lv_at hl 2 rfl) ?_
  refine gg_get_M_reg X 31 (Or.inl (List.mem_cons_of_mem _ w_370)) d_M_ask_31 ?_
  refine gg_bipush X 34 (8 : Int32) d_M_ask_34 (by decide) ?_
  refine gg_aload_n X 36 d_M_ask_36 rfl (lv_at hl 2 rfl) ?_
  refine gg_get_M_who X 37 (Or.inl (List.mem_cons_of_mem _ w_372)) d_M_ask_37 ?_
  refine gg_imul X 40 d_M_ask_40 ?_
  refine gg_iconst X 41 (3 : Int32) d_M_ask_41 (by decide) ?_
  refine gg_iadd X 42 d_M_ask_42 ?_
  refine gg_ald_A_reg X 43 d_M_ask_43 ?_
  refine gg_istore X 44 (fun v3 => [(4, .int v3), (3, .int v2), (2, .int v1), (0, .ref (ad 0)), (1, .int a1)]) d_M_ask_44 hl (by decide) (fun _ => rfl) (fun v3 ls hl => ?_)
  refine gg_aload_n X 46 d_M_ask_46 rfl (lv_at hl 3 rfl) ?_
  refine gg_get_M_place X 47 (Or.inl (List.mem_cons_of_mem _ w_371)) d_M_ask_47 ?_
  refine gg_aload_n X 50 d_M_ask_50 rfl (lv_at hl 3 rfl) ?_
  refine gg_get_M_who X 51 (Or.inl (List.mem_cons_of_mem _ w_372)) d_M_ask_51 ?_
  refine gg_aload_n X 54 d_M_ask_54 rfl (lv_at hl 3 rfl) ?_
  refine gg_get_M_place X 55 (Or.inl (List.mem_cons_of_mem _ w_371)) d_M_ask_55 ?_
  refine gg_aload_n X 58 d_M_ask_58 rfl (lv_at hl 3 rfl) ?_
  refine gg_get_M_who X 59 (Or.inl (List.mem_cons_of_mem _ w_372)) d_M_ask_59 ?_
  refine gg_ald_A_place X 62 d_M_ask_62 ?_
  refine gg_iconst X 63 (1 : Int32) d_M_ask_63 (by decide) ?_
  refine gg_iadd X 64 d_M_ask_64 ?_
  refine gg_ast_A_place X 65 d_M_ask_65 (fun s4 => ?_)
  refine gg_iconst X 66 (-1 : Int32) d_M_ask_66 (by decide) ?_
  refine gg_istore X 67 (fun v5 => [(5, .int v5), (4, .int v3), (3, .int v2), (2, .int v1), (0, .ref (ad 0)), (1, .int a1)]) d_M_ask_67 hl (by decide) (fun _ => rfl) (fun v5 ls hl => ?_)
  refine gg_aload_n X 69 d_M_ask_69 rfl (lv_at hl 4 rfl) ?_
  refine gg_get_M_who X 70 (Or.inl (List.mem_cons_of_mem _ w_372)) d_M_ask_70 ?_
  refine gg_bipush X 73 (6 : Int32) d_M_ask_73 (by decide) ?_
  refine gg_icmp_ne X 75 106 d_M_ask_75 rfl (fun _ => ?_) (fun _ => ?_)
  · refine gg_iload_n X 106 d_M_ask_106 rfl (lv_at hl 5 rfl) ?_
    refine gg_bipush X 107 (16 : Int32) d_M_ask_107 (by decide) ?_
    refine gg_icmp_ne X 109 129 d_M_ask_109 rfl (fun _ => ?_) (fun _ => ?_)
    · refine gg_iload_n X 129 d_M_ask_129 rfl (lv_at hl 5 rfl) ?_
      refine gg_bipush X 130 (17 : Int32) d_M_ask_130 (by decide) ?_
      refine gg_icmp_ne X 132 155 d_M_ask_132 rfl (fun _ => ?_) (fun _ => ?_)
      · refine gg_iload_n X 155 d_M_ask_155 rfl (lv_at hl 5 rfl) ?_
        refine gg_bipush X 156 (18 : Int32) d_M_ask_156 (by decide) ?_
        refine gg_icmp_ne X 158 192 d_M_ask_158 rfl (fun _ => ?_) (fun _ => ?_)
        · refine gg_iload_n X 192 d_M_ask_192 rfl (lv_at hl 5 rfl) ?_
          refine gg_bipush X 193 (19 : Int32) d_M_ask_193 (by decide) ?_
          refine gg_icmp_ne X 195 216 d_M_ask_195 rfl (fun _ => ?_) (fun _ => ?_)
          · exact t_M_ask_216 X v5 s4 _  (lv_sub hl [4, 0] rfl)
          · refine gg_aload_n X 198 d_M_ask_198 rfl (lv_at hl 4 rfl) ?_
            refine gg_iload_n X 199 d_M_ask_199 rfl (lv_at hl 3 rfl) ?_
            refine gg_iload_n X 200 d_M_ask_200 rfl (lv_at hl 2 rfl) ?_
            refine gg_callV X 201 nwOk_M [.int v1, .int v2] [] (fun _ _ h sz => M_M_mac l D dI ad _ v1 v2  h sz) (cwV 2 X.1.2.2.2.2 (gwV w_563 w_565 ws_M_mac w_5 w_566) rfl rfl rfl (by decide +kernel) ⟨by decide, by decide⟩) (he_M_Main) rfl rfl hl.1 rfl (Nat.le_of_ble_eq_true rfl) ⟨Nat.zero_le _, Nat.zero_le _⟩ d_M_ask_201 (fun r6 s7 ho8 => ?_)
            refine gg_show_i ?_
            refine gg_iload X 204 d_M_ask_204 (lv_at hl 1 rfl) ?_
            refine gg_icmp_ne X 206 213 d_M_ask_206 rfl (fun _ => ?_) (fun _ => ?_)
            · refine gg_iconst X 213 (0 : Int32) d_M_ask_213 (by decide) ?_
              exact t_M_ask_214 X (0 : Int32) s7 _  (lv_sub hl [4] rfl)
            · refine gg_iconst X 209 (1 : Int32) d_M_ask_209 (by decide) ?_
              refine gg_goto X 210 214 d_M_ask_210 rfl ?_
              exact t_M_ask_214 X (1 : Int32) s7 _  (lv_sub hl [4] rfl)
        · refine gg_aload_n X 161 d_M_ask_161 rfl (lv_at hl 4 rfl) ?_
          refine gg_get_M_secret X 162 (Or.inl (List.mem_cons_of_mem _ w_358)) d_M_ask_162 ?_
          refine gg_aload_n X 165 d_M_ask_165 rfl (lv_at hl 4 rfl) ?_
          refine gg_aload_n X 166 d_M_ask_166 rfl (lv_at hl 4 rfl) ?_
          refine gg_get_M_who X 167 (Or.inl (List.mem_cons_of_mem _ w_372)) d_M_ask_167 ?_
          refine gg_iconst X 170 (2 : Int32) d_M_ask_170 (by decide) ?_
          refine gg_idivk X 171 d_M_ask_171 (by decide) ?_
          refine gg_callV X 172 nwOk_M [.int ((s4 13 1) / (2 : Int32))] [.int (s4 13 0)] (fun _ _ h sz => M_M_measured l D dI ad _ ((s4 13 1) / (2 : Int32))  h sz) (cwV 1 X.1.2.2.2.2 (gwV w_555 w_557 ws_M_measured w_5 w_558) rfl rfl rfl (by decide +kernel) ⟨by decide, by decide⟩) (he_M_Main) rfl rfl hl.1 rfl (Nat.le_of_ble_eq_true rfl) ⟨Nat.zero_le _, Nat.zero_le _⟩ d_M_ask_172 (fun r9 s10 ho11 => ?_)
          refine gg_show_i ?_
          refine gg_callS X 175 nwOk_M [.int (s4 13 0), .int r9] [] (fun _ _ h sz => M_M_mix l D dI ad _ (s4 13 0) r9  h sz) (cwS 2 X.1.2.2.2.2 (gwS w_559 w_560 w_5 w_561) rfl rfl rfl (by decide +kernel) ⟨by decide, by decide⟩) rfl hl.1 rfl (Nat.le_of_ble_eq_true rfl) ⟨Nat.zero_le _, Nat.zero_le _⟩ d_M_ask_175 (fun r12 s13 ho14 => ?_)
          refine gg_show_i ?_
          refine gg_istore X 178 (fun v15 => [(5, .int v15), (4, .int v3), (3, .int v2), (2, .int v1), (0, .ref (ad 0)), (1, .int a1)]) d_M_ask_178 hl (by decide) (fun _ => rfl) (fun v15 ls hl => ?_)
          refine gg_iload X 180 d_M_ask_180 (lv_at hl 0 rfl) ?_
          refine gg_bipush X 182 (18 : Int32) d_M_ask_182 (by decide) ?_
          refine gg_callS X 184 nwOk_M [.int v15, .int (18 : Int32)] [] (fun _ _ h sz => M_M_mix l D dI ad _ v15 (18 : Int32)  h sz) (cwS 2 X.1.2.2.2.2 (gwS w_559 w_560 w_5 w_561) rfl rfl rfl (by decide +kernel) ⟨by decide, by decide⟩) rfl hl.1 rfl (Nat.le_of_ble_eq_true rfl) ⟨Nat.zero_le _, Nat.zero_le _⟩ d_M_ask_184 (fun r16 s17 ho18 => ?_)
          refine gg_show_i ?_
          refine gg_istore X 187 (fun v19 => [(5, .int v19), (4, .int v3), (3, .int v2), (2, .int v1), (0, .ref (ad 0)), (1, .int a1)]) d_M_ask_187 hl (by decide) (fun _ => rfl) (fun v19 ls hl => ?_)
          refine gg_goto X 189 216 d_M_ask_189 rfl ?_
          exact t_M_ask_216 X v19 s17 _  (lv_sub hl [4, 0] rfl)
      · refine gg_aload_n X 135 d_M_ask_135 rfl (lv_at hl 4 rfl) ?_
        refine gg_aload_n X 136 d_M_ask_136 rfl (lv_at hl 4 rfl) ?_
        refine gg_aload_n X 137 d_M_ask_137 rfl (lv_at hl 4 rfl) ?_
        refine gg_get_M_who X 138 (Or.inl (List.mem_cons_of_mem _ w_372)) d_M_ask_138 ?_
        refine gg_iconst X 141 (2 : Int32) d_M_ask_141 (by decide) ?_
        refine gg_idivk X 142 d_M_ask_142 (by decide) ?_
        refine gg_callV X 143 nwOk_M [.int ((s4 13 1) / (2 : Int32))] [.ref (ad 0)] (fun _ _ h sz => M_M_measured l D dI ad _ ((s4 13 1) / (2 : Int32))  h sz) (cwV 1 X.1.2.2.2.2 (gwV w_555 w_557 ws_M_measured w_5 w_558) rfl rfl rfl (by decide +kernel) ⟨by decide, by decide⟩) (he_M_Main) rfl rfl hl.1 rfl (Nat.le_of_ble_eq_true rfl) ⟨Nat.zero_le _, Nat.zero_le _⟩ d_M_ask_143 (fun r20 s21 ho22 => ?_)
        refine gg_show_i ?_
        refine gg_iload_n X 146 d_M_ask_146 rfl (lv_at hl 3 rfl) ?_
        refine gg_callV X 147 nwOk_M [.int r20, .int v1] [] (fun _ _ h sz => M_M_mac l D dI ad _ r20 v1  h sz) (cwV 2 X.1.2.2.2.2 (gwV w_563 w_565 ws_M_mac w_5 w_566) rfl rfl rfl (by decide +kernel) ⟨by decide, by decide⟩) (he_M_Main) rfl rfl hl.1 rfl (Nat.le_of_ble_eq_true rfl) ⟨Nat.zero_le _, Nat.zero_le _⟩ d_M_ask_147 (fun r23 s24 ho25 => ?_)
        refine gg_show_i ?_
        refine gg_istore X 150 (fun v26 => [(5, .int v26), (4, .int v3), (3, .int v2), (2, .int v1), (0, .ref (ad 0)), (1, .int a1)]) d_M_ask_150 hl (by decide) (fun _ => rfl) (fun v26 ls hl => ?_)
        refine gg_goto X 152 216 d_M_ask_152 rfl ?_
        exact t_M_ask_216 X v26 s24 _  (lv_sub hl [4, 0] rfl)
    · refine gg_aload_n X 112 d_M_ask_112 rfl (lv_at hl 4 rfl) ?_
      refine gg_get_M_phase X 113 (Or.inl (List.mem_cons_of_mem _ w_368)) d_M_ask_113 ?_
      refine gg_aload_n X 116 d_M_ask_116 rfl (lv_at hl 4 rfl) ?_
      refine gg_get_M_who X 117 (Or.inl (List.mem_cons_of_mem _ w_372)) d_M_ask_117 ?_
      refine gg_iconst X 120 (1 : Int32) d_M_ask_120 (by decide) ?_
      refine gg_ast_A_phase X 121 d_M_ask_121 (fun s27 => ?_)
      refine gg_aload_n X 122 d_M_ask_122 rfl (lv_at hl 4 rfl) ?_
      refine gg_iconst X 123 (1 : Int32) d_M_ask_123 (by decide) ?_
      refine gg_iload_n X 124 d_M_ask_124 rfl (lv_at hl 3 rfl) ?_
      refine gg_callV X 125 nwOk_M [.int (1 : Int32), .int v1] [] (fun _ _ h sz => M_M_leave l D dI ad _ (1 : Int32) v1  h sz) (cwV 2 X.1.2.2.2.2 (gwV w_535 w_537 ws_M_leave w_5 w_538) rfl rfl rfl (by decide +kernel) ⟨by decide, by decide⟩) (he_M_Main) rfl rfl hl.1 rfl (Nat.le_of_ble_eq_true rfl) ⟨Nat.zero_le _, Nat.zero_le _⟩ d_M_ask_125 (fun r28 s29 ho30 => ?_)
      refine gg_show_v ?_
      exact gg_vret X 128 d_M_ask_128
  · refine gg_aload_n X 78 d_M_ask_78 rfl (lv_at hl 4 rfl) ?_
    refine gg_iload_n X 79 d_M_ask_79 rfl (lv_at hl 5 rfl) ?_
    refine gg_iload_n X 80 d_M_ask_80 rfl (lv_at hl 3 rfl) ?_
    refine gg_iload_n X 81 d_M_ask_81 rfl (lv_at hl 2 rfl) ?_
    refine gg_iload X 82 d_M_ask_82 (lv_at hl 1 rfl) ?_
    refine gg_callV X 84 nwOk_M [.int a1, .int v1, .int v2, .int v3] [] (fun _ _ h sz => M_M_system l D dI ad _ a1 v1 v2 v3  h sz) (cwV 4 X.1.2.2.2.2 (gwV w_476 w_478 ws_M_system w_5 w_479) rfl rfl rfl (by decide +kernel) ⟨by decide, by decide⟩) (he_M_Main) rfl rfl hl.1 rfl (Nat.le_of_ble_eq_true rfl) ⟨Nat.zero_le _, Nat.zero_le _⟩ d_M_ask_84 (fun r31 s32 ho33 => ?_)
    refine gg_show_i ?_
    refine gg_istore X 87 (fun v34 => [(5, .int v34), (4, .int v3), (3, .int v2), (2, .int v1), (0, .ref (ad 0)), (1, .int a1)]) d_M_ask_87 hl (by decide) (fun _ => rfl) (fun v34 ls hl => ?_)
    refine gg_aload_n X 89 d_M_ask_89 rfl (lv_at hl 4 rfl) ?_
    refine gg_get_M_who X 90 (Or.inl (List.mem_cons_of_mem _ w_372)) d_M_ask_90 ?_
    refine gg_bipush X 93 (6 : Int32) d_M_ask_93 (by decide) ?_
    refine gg_icmp_ne X 95 105 d_M_ask_95 rfl (fun _ => ?_) (fun _ => ?_)
    · exact gg_vret X 105 d_M_ask_105
    · refine gg_aload_n X 98 d_M_ask_98 rfl (lv_at hl 4 rfl) ?_
      refine gg_iconst X 99 (1 : Int32) d_M_ask_99 (by decide) ?_
      refine gg_iload X 100 d_M_ask_100 (lv_at hl 0 rfl) ?_
      refine gg_callV X 102 nwOk_M [.int (1 : Int32), .int v34] [] (fun _ _ h sz => M_M_put l D dI ad _ (1 : Int32) v34  h sz) (cwV 2 X.1.2.2.2.2 (gwV w_543 w_545 ws_M_put w_5 w_546) rfl rfl rfl (by decide +kernel) ⟨by decide, by decide⟩) (he_M_Main) rfl rfl hl.1 rfl (Nat.le_of_ble_eq_true rfl) ⟨Nat.zero_le _, Nat.zero_le _⟩ d_M_ask_102 (fun r35 s36 ho37 => ?_)
      refine gg_show_v ?_
      exact gg_vret X 105 d_M_ask_105
theorem M_M_ask (l : Launch) (D : va_G) (dI : Nat → ClassId) (ad : Nat → Nat) (s : eS) (a1 : Int32)  {r : Unit} {s' : eS} (h : f_M_ask a1 s = some (r, s')) (sz : Nat) : Met l y_M_ask (Cond.code y_M_ask prog_6_method_25_code 6 none :: WS) rm_M_ask (Px (wM dI ad) D vwCl (tyM dI) [] sz s [.ref (ad 0), .int a1]) (Qx rvV (wM dI ad) D vwCl (tyM dI) (va_A ((wM dI ad) s) sz) r s') 0 0 (va_A ((wM dI ad) s) sz) :=
  met_of [.ref (ad 0), .int a1] (by decide) rfl rfl (Nat.le_of_ble_eq_true rfl) h (fun p e s0 m args below meth c A ls X hl => t_M_ask X a1 s ls  hl)
