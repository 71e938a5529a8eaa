theorem w_111 : Cond.methodLink "EnclaveWardenLaw" 21 ⟨"EnclaveWarden", "poke", "(II)Z"⟩ ∈ WS := ws_tbl (show _ ∈ tables_1 from List.mem_append_left _ (show _ ∈ tables_1_1 from List.mem_of_getElem? (i := 111) (by decide +kernel))) (by decide +kernel)
theorem w_112 : Cond.instanceMethod ⟨"EnclaveWarden", "poke", "(II)Z"⟩ ∈ WS := ws_tbl (show _ ∈ tables_1 from List.mem_append_left _ (show _ ∈ tables_1_1 from List.mem_of_getElem? (i := 112) (by decide +kernel))) (by decide +kernel)
theorem w_113 : Cond.selects "EnclaveWarden" ⟨"EnclaveWarden", "poke", "(II)Z"⟩ ⟨"EnclaveWarden", "poke", "(II)Z"⟩ ∈ WS := ws_tbl (show _ ∈ tables_1 from List.mem_append_left _ (show _ ∈ tables_1_1 from List.mem_of_getElem? (i := 113) (by decide +kernel))) (by decide +kernel)
theorem w_114 : Cond.code ⟨"EnclaveWarden", "poke", "(II)Z"⟩ prog_1_method_2_code 3 (Option.some .boolean) ∈ WS := ws_tbl (show _ ∈ tables_1 from List.mem_append_left _ (show _ ∈ tables_1_1 from List.mem_of_getElem? (i := 114) rfl)) (by decide +kernel)
theorem w_122 : Cond.methodLink "EnclaveWardenLaw" 26 ⟨"EnclaveWarden", "peek", "(I)I"⟩ ∈ WS := ws_tbl (show _ ∈ tables_1 from List.mem_append_left _ (show _ ∈ tables_1_1 from List.mem_of_getElem? (i := 122) (by decide +kernel))) (by decide +kernel)
theorem w_123 : Cond.instanceMethod ⟨"EnclaveWarden", "peek", "(I)I"⟩ ∈ WS := ws_tbl (show _ ∈ tables_1 from List.mem_append_left _ (show _ ∈ tables_1_1 from List.mem_of_getElem? (i := 123) (by decide +kernel))) (by decide +kernel)
theorem w_124 : Cond.selects "EnclaveWarden" ⟨"EnclaveWarden", "peek", "(I)I"⟩ ⟨"EnclaveWarden", "peek", "(I)I"⟩ ∈ WS := ws_tbl (show _ ∈ tables_1 from List.mem_append_left _ (show _ ∈ tables_1_1 from List.mem_of_getElem? (i := 124) (by decide +kernel))) (by decide +kernel)
theorem w_125 : Cond.code ⟨"EnclaveWarden", "peek", "(I)I"⟩ prog_1_method_3_code 2 (Option.some .int) ∈ WS := ws_tbl (show _ ∈ tables_1 from List.mem_append_left _ (show _ ∈ tables_1_1 from List.mem_of_getElem? (i := 125) rfl)) (by decide +kernel)
theorem w_126 : Cond.methodLink "EnclaveWardenLaw" 31 ⟨"EnclaveWarden", "bare", "(I)I"⟩ ∈ WS := ws_tbl (show _ ∈ tables_1 from List.mem_append_left _ (show _ ∈ tables_1_1 from List.mem_of_getElem? (i := 126) (by decide +kernel))) (by decide +kernel)
theorem w_127 : Cond.instanceMethod ⟨"EnclaveWarden", "bare", "(I)I"⟩ ∈ WS := ws_tbl (show _ ∈ tables_1 from List.mem_append_left _ (show _ ∈ tables_1_1 from List.mem_of_getElem? (i := 127) (by decide +kernel))) (by decide +kernel)
theorem w_128 : Cond.selects "EnclaveWarden" ⟨"EnclaveWarden", "bare", "(I)I"⟩ ⟨"EnclaveWarden", "bare", "(I)I"⟩ ∈ WS := ws_tbl (show _ ∈ tables_1 from List.mem_append_left _ (show _ ∈ tables_1_1 from List.mem_of_getElem? (i := 128) (by decide +kernel))) (by decide +kernel)
theorem w_129 : Cond.code ⟨"EnclaveWarden", "bare", "(I)I"⟩ prog_1_method_4_code 2 (Option.some .int) ∈ WS := ws_tbl (show _ ∈ tables_1 from List.mem_append_left _ (show _ ∈ tables_1_1 from List.mem_of_getElem? (i := 129) rfl)) (by decide +kernel)
theorem w_130 : Cond.methodLink "EnclaveWardenLaw" 35 ⟨"EnclaveWarden", "give", "(II)Z"⟩ ∈ WS := ws_tbl (show _ ∈ tables_1 from List.mem_append_left _ (show _ ∈ tables_1_1 from List.mem_of_getElem? (i := 130) (by decide +kernel))) (by decide +kernel)
theorem w_131 : Cond.instanceMethod ⟨"EnclaveWarden", "give", "(II)Z"⟩ ∈ WS := ws_tbl (show _ ∈ tables_1 from List.mem_append_left _ (show _ ∈ tables_1_1 from List.mem_of_getElem? (i := 131) (by decide +kernel))) (by decide +kernel)
theorem w_132 : Cond.selects "EnclaveWarden" ⟨"EnclaveWarden", "give", "(II)Z"⟩ ⟨"EnclaveWarden", "give", "(II)Z"⟩ ∈ WS := ws_tbl (show _ ∈ tables_1 from List.mem_append_left _ (show _ ∈ tables_1_1 from List.mem_of_getElem? (i := 132) (by decide +kernel))) (by decide +kernel)
theorem w_133 : Cond.code ⟨"EnclaveWarden", "give", "(II)Z"⟩ prog_1_method_5_code 3 (Option.some .boolean) ∈ WS := ws_tbl (show _ ∈ tables_1 from List.mem_append_left _ (show _ ∈ tables_1_1 from List.mem_of_getElem? (i := 133) rfl)) (by decide +kernel)
theorem w_138 : Cond.methodLink "EnclaveWardenLaw" 39 ⟨"EnclaveWarden", "register", "(I)I"⟩ ∈ WS := ws_tbl (show _ ∈ tables_1 from List.mem_append_left _ (show _ ∈ tables_1_1 from List.mem_of_getElem? (i := 138) (by decide +kernel))) (by decide +kernel)
theorem w_139 : Cond.instanceMethod ⟨"EnclaveWarden", "register", "(I)I"⟩ ∈ WS := ws_tbl (show _ ∈ tables_1 from List.mem_append_left _ (show _ ∈ tables_1_1 from List.mem_of_getElem? (i := 139) (by decide +kernel))) (by decide +kernel)
theorem w_140 : Cond.selects "EnclaveWarden" ⟨"EnclaveWarden", "register", "(I)I"⟩ ⟨"EnclaveWarden", "register", "(I)I"⟩ ∈ WS := ws_tbl (show _ ∈ tables_1 from List.mem_append_left _ (show _ ∈ tables_1_1 from List.mem_of_getElem? (i := 140) (by decide +kernel))) (by decide +kernel)
theorem w_141 : Cond.code ⟨"EnclaveWarden", "register", "(I)I"⟩ prog_1_method_6_code 2 (Option.some .int) ∈ WS := ws_tbl (show _ ∈ tables_1 from List.mem_append_left _ (show _ ∈ tables_1_1 from List.mem_of_getElem? (i := 141) rfl)) (by decide +kernel)
theorem w_146 : Cond.methodLink "EnclaveWardenLaw" 43 ⟨"EnclaveWarden", "pc", "()I"⟩ ∈ WS := ws_tbl (show _ ∈ tables_1 from List.mem_append_left _ (show _ ∈ tables_1_1 from List.mem_of_getElem? (i := 146) (by decide +kernel))) (by decide +kernel)
theorem w_147 : Cond.instanceMethod ⟨"EnclaveWarden", "pc", "()I"⟩ ∈ WS := ws_tbl (show _ ∈ tables_1 from List.mem_append_left _ (show _ ∈ tables_1_1 from List.mem_of_getElem? (i := 147) (by decide +kernel))) (by decide +kernel)
theorem w_148 : Cond.selects "EnclaveWarden" ⟨"EnclaveWarden", "pc", "()I"⟩ ⟨"EnclaveWarden", "pc", "()I"⟩ ∈ WS := ws_tbl (show _ ∈ tables_1 from List.mem_append_left _ (show _ ∈ tables_1_1 from List.mem_of_getElem? (i := 148) (by decide +kernel))) (by decide +kernel)
theorem w_149 : Cond.code ⟨"EnclaveWarden", "pc", "()I"⟩ prog_1_method_7_code 1 (Option.some .int) ∈ WS := ws_tbl (show _ ∈ tables_1 from List.mem_append_left _ (show _ ∈ tables_1_1 from List.mem_of_getElem? (i := 149) rfl)) (by decide +kernel)
theorem w_150 : Cond.methodLink "EnclaveWardenLaw" 48 ⟨"EnclaveWarden", "boot", "(I)Z"⟩ ∈ WS := ws_tbl (show _ ∈ tables_1 from List.mem_append_left _ (show _ ∈ tables_1_1 from List.mem_of_getElem? (i := 150) (by decide +kernel))) (by decide +kernel)
theorem w_151 : Cond.instanceMethod ⟨"EnclaveWarden", "boot", "(I)Z"⟩ ∈ WS := ws_tbl (show _ ∈ tables_1 from List.mem_append_left _ (show _ ∈ tables_1_1 from List.mem_of_getElem? (i := 151) (by decide +kernel))) (by decide +kernel)
theorem w_152 : Cond.selects "EnclaveWarden" ⟨"EnclaveWarden", "boot", "(I)Z"⟩ ⟨"EnclaveWarden", "boot", "(I)Z"⟩ ∈ WS := ws_tbl (show _ ∈ tables_1 from List.mem_append_left _ (show _ ∈ tables_1_1 from List.mem_of_getElem? (i := 152) (by decide +kernel))) (by decide +kernel)
theorem w_153 : Cond.code ⟨"EnclaveWarden", "boot", "(I)Z"⟩ prog_1_method_8_code 2 (Option.some .boolean) ∈ WS := ws_tbl (show _ ∈ tables_1 from List.mem_append_left _ (show _ ∈ tables_1_1 from List.mem_of_getElem? (i := 153) rfl)) (by decide +kernel)
theorem w_154 : Cond.methodLink "EnclaveWardenLaw" 53 ⟨"EnclaveWarden", "halted", "()Z"⟩ ∈ WS := ws_tbl (show _ ∈ tables_1 from List.mem_append_left _ (show _ ∈ tables_1_1 from List.mem_of_getElem? (i := 154) (by decide +kernel))) (by decide +kernel)
theorem w_155 : Cond.instanceMethod ⟨"EnclaveWarden", "halted", "()Z"⟩ ∈ WS := ws_tbl (show _ ∈ tables_1 from List.mem_append_left _ (show _ ∈ tables_1_1 from List.mem_of_getElem? (i := 155) (by decide +kernel))) (by decide +kernel)
theorem w_156 : Cond.selects "EnclaveWarden" ⟨"EnclaveWarden", "halted", "()Z"⟩ ⟨"EnclaveWarden", "halted", "()Z"⟩ ∈ WS := ws_tbl (show _ ∈ tables_1 from List.mem_append_left _ (show _ ∈ tables_1_1 from List.mem_of_getElem? (i := 156) (by decide +kernel))) (by decide +kernel)
theorem w_157 : Cond.code ⟨"EnclaveWarden", "halted", "()Z"⟩ prog_1_method_9_code 1 (Option.some .boolean) ∈ WS := ws_tbl (show _ ∈ tables_1 from List.mem_append_left _ (show _ ∈ tables_1_1 from List.mem_of_getElem? (i := 157) rfl)) (by decide +kernel)
theorem w_158 : Cond.methodLink "EnclaveWardenLaw" 58 ⟨"EnclaveWarden", "call", "(IIII)I"⟩ ∈ WS := ws_tbl (show _ ∈ tables_1 from List.mem_append_left _ (show _ ∈ tables_1_1 from List.mem_of_getElem? (i := 158) (by decide +kernel))) (by decide +kernel)
theorem w_159 : Cond.instanceMethod ⟨"EnclaveWarden", "call", "(IIII)I"⟩ ∈ WS := ws_tbl (show _ ∈ tables_1 from List.mem_append_left _ (show _ ∈ tables_1_1 from List.mem_of_getElem? (i := 159) (by decide +kernel))) (by decide +kernel)
theorem w_160 : Cond.selects "EnclaveWarden" ⟨"EnclaveWarden", "call", "(IIII)I"⟩ ⟨"EnclaveWarden", "call", "(IIII)I"⟩ ∈ WS := ws_tbl (show _ ∈ tables_1 from List.mem_append_left _ (show _ ∈ tables_1_1 from List.mem_of_getElem? (i := 160) (by decide +kernel))) (by decide +kernel)
theorem w_161 : Cond.code ⟨"EnclaveWarden", "call", "(IIII)I"⟩ prog_1_method_10_code 5 (Option.some .int) ∈ WS := ws_tbl (show _ ∈ tables_1 from List.mem_append_left _ (show _ ∈ tables_1_1 from List.mem_of_getElem? (i := 161) rfl)) (by decide +kernel)
theorem w_261 : Cond.methodLink "EnclaveWardenLaw" 63 ⟨"EnclaveWarden", "run", "(I)I"⟩ ∈ WS := ws_tbl (show _ ∈ tables_1 from List.mem_append_right _ (List.mem_append_left _ (show _ ∈ tables_1_2 from List.mem_of_getElem? (i := 21) (by decide +kernel)))) (by decide +kernel)
theorem w_262 : Cond.instanceMethod ⟨"EnclaveWarden", "run", "(I)I"⟩ ∈ WS := ws_tbl (show _ ∈ tables_1 from List.mem_append_right _ (List.mem_append_left _ (show _ ∈ tables_1_2 from List.mem_of_getElem? (i := 22) (by decide +kernel)))) (by decide +kernel)
theorem w_263 : Cond.selects "EnclaveWarden" ⟨"EnclaveWarden", "run", "(I)I"⟩ ⟨"EnclaveWarden", "run", "(I)I"⟩ ∈ WS := ws_tbl (show _ ∈ tables_1 from List.mem_append_right _ (List.mem_append_left _ (show _ ∈ tables_1_2 from List.mem_of_getElem? (i := 23) (by decide +kernel)))) (by decide +kernel)
theorem w_264 : Cond.code ⟨"EnclaveWarden", "run", "(I)I"⟩ prog_1_method_11_code 3 (Option.some .int) ∈ WS := ws_tbl (show _ ∈ tables_1 from List.mem_append_right _ (List.mem_append_left _ (show _ ∈ tables_1_2 from List.mem_of_getElem? (i := 24) rfl))) (by decide +kernel)
theorem w_309 : Cond.methodLink "EnclaveWardenLaw" 67 ⟨"EnclaveWarden", "period", "(I)V"⟩ ∈ WS := ws_tbl (show _ ∈ tables_1 from List.mem_append_right _ (List.mem_append_left _ (show _ ∈ tables_1_2 from List.mem_of_getElem? (i := 69) (by decide +kernel)))) (by decide +kernel)
theorem w_310 : Cond.instanceMethod ⟨"EnclaveWarden", "period", "(I)V"⟩ ∈ WS := ws_tbl (show _ ∈ tables_1 from List.mem_append_right _ (List.mem_append_left _ (show _ ∈ tables_1_2 from List.mem_of_getElem? (i := 70) (by decide +kernel)))) (by decide +kernel)
theorem w_311 : Cond.selects "EnclaveWarden" ⟨"EnclaveWarden", "period", "(I)V"⟩ ⟨"EnclaveWarden", "period", "(I)V"⟩ ∈ WS := ws_tbl (show _ ∈ tables_1 from List.mem_append_right _ (List.mem_append_left _ (show _ ∈ tables_1_2 from List.mem_of_getElem? (i := 71) (by decide +kernel)))) (by decide +kernel)
theorem w_312 : Cond.code ⟨"EnclaveWarden", "period", "(I)V"⟩ prog_1_method_12_code 2 none ∈ WS := ws_tbl (show _ ∈ tables_1 from List.mem_append_right _ (List.mem_append_left _ (show _ ∈ tables_1_2 from List.mem_of_getElem? (i := 72) rfl))) (by decide +kernel)
theorem w_313 : Cond.methodLink "EnclaveWardenLaw" 71 ⟨"EnclaveWarden", "tick", "()I"⟩ ∈ WS := ws_tbl (show _ ∈ tables_1 from List.mem_append_right _ (List.mem_append_left _ (show _ ∈ tables_1_2 from List.mem_of_getElem? (i := 73) (by decide +kernel)))) (by decide +kernel)
theorem w_314 : Cond.instanceMethod ⟨"EnclaveWarden", "tick", "()I"⟩ ∈ WS := ws_tbl (show _ ∈ tables_1 from List.mem_append_right _ (List.mem_append_left _ (show _ ∈ tables_1_2 from List.mem_of_getElem? (i := 74) (by decide +kernel)))) (by decide +kernel)
theorem w_315 : Cond.selects "EnclaveWarden" ⟨"EnclaveWarden", "tick", "()I"⟩ ⟨"EnclaveWarden", "tick", "()I"⟩ ∈ WS := ws_tbl (show _ ∈ tables_1 from List.mem_append_right _ (List.mem_append_left _ (show _ ∈ tables_1_2 from List.mem_of_getElem? (i := 75) (by decide +kernel)))) (by decide +kernel)
theorem w_316 : Cond.code ⟨"EnclaveWarden", "tick", "()I"⟩ prog_1_method_13_code 1 (Option.some .int) ∈ WS := ws_tbl (show _ ∈ tables_1 from List.mem_append_right _ (List.mem_append_left _ (show _ ∈ tables_1_2 from List.mem_of_getElem? (i := 76) rfl))) (by decide +kernel)
theorem w_317 : Cond.methodLink "EnclaveWardenLaw" 75 ⟨"EnclaveWarden", "running", "()I"⟩ ∈ WS := ws_tbl (show _ ∈ tables_1 from List.mem_append_right _ (List.mem_append_left _ (show _ ∈ tables_1_2 from List.mem_of_getElem? (i := 77) (by decide +kernel)))) (by decide +kernel)
theorem w_318 : Cond.instanceMethod ⟨"EnclaveWarden", "running", "()I"⟩ ∈ WS := ws_tbl (show _ ∈ tables_1 from List.mem_append_right _ (List.mem_append_left _ (show _ ∈ tables_1_2 from List.mem_of_getElem? (i := 78) (by decide +kernel)))) (by decide +kernel)
theorem w_319 : Cond.selects "EnclaveWarden" ⟨"EnclaveWarden", "running", "()I"⟩ ⟨"EnclaveWarden", "running", "()I"⟩ ∈ WS := ws_tbl (show _ ∈ tables_1 from List.mem_append_right _ (List.mem_append_left _ (show _ ∈ tables_1_2 from List.mem_of_getElem? (i := 79) (by decide +kernel)))) (by decide +kernel)
theorem w_320 : Cond.code ⟨"EnclaveWarden", "running", "()I"⟩ prog_1_method_14_code 1 (Option.some .int) ∈ WS := ws_tbl (show _ ∈ tables_1 from List.mem_append_right _ (List.mem_append_left _ (show _ ∈ tables_1_2 from List.mem_of_getElem? (i := 80) rfl))) (by decide +kernel)
theorem w_321 : Cond.methodLink "EnclaveWardenLaw" 79 ⟨"EnclaveWarden", "region", "(I)I"⟩ ∈ WS := ws_tbl (show _ ∈ tables_1 from List.mem_append_right _ (List.mem_append_left _ (show _ ∈ tables_1_2 from List.mem_of_getElem? (i := 81) (by decide +kernel)))) (by decide +kernel)
theorem w_322 : Cond.instanceMethod ⟨"EnclaveWarden", "region", "(I)I"⟩ ∈ WS := ws_tbl (show _ ∈ tables_1 from List.mem_append_right _ (List.mem_append_left _ (show _ ∈ tables_1_2 from List.mem_of_getElem? (i := 82) (by decide +kernel)))) (by decide +kernel)
theorem w_323 : Cond.selects "EnclaveWarden" ⟨"EnclaveWarden", "region", "(I)I"⟩ ⟨"EnclaveWarden", "region", "(I)I"⟩ ∈ WS := ws_tbl (show _ ∈ tables_1 from List.mem_append_right _ (List.mem_append_left _ (show _ ∈ tables_1_2 from List.mem_of_getElem? (i := 83) (by decide +kernel)))) (by decide +kernel)
theorem w_324 : Cond.code ⟨"EnclaveWarden", "region", "(I)I"⟩ prog_1_method_15_code 2 (Option.some .int) ∈ WS := ws_tbl (show _ ∈ tables_1 from List.mem_append_right _ (List.mem_append_left _ (show _ ∈ tables_1_2 from List.mem_of_getElem? (i := 84) rfl))) (by decide +kernel)
theorem w_325 : Cond.methodLink "EnclaveWardenLaw" 83 ⟨"EnclaveWarden", "enclave", "(I)I"⟩ ∈ WS := ws_tbl (show _ ∈ tables_1 from List.mem_append_right _ (List.mem_append_left _ (show _ ∈ tables_1_2 from List.mem_of_getElem? (i := 85) (by decide +kernel)))) (by decide +kernel)
theorem w_326 : Cond.instanceMethod ⟨"EnclaveWarden", "enclave", "(I)I"⟩ ∈ WS := ws_tbl (show _ ∈ tables_1 from List.mem_append_right _ (List.mem_append_left _ (show _ ∈ tables_1_2 from List.mem_of_getElem? (i := 86) (by decide +kernel)))) (by decide +kernel)
theorem w_327 : Cond.selects "EnclaveWarden" ⟨"EnclaveWarden", "enclave", "(I)I"⟩ ⟨"EnclaveWarden", "enclave", "(I)I"⟩ ∈ WS := ws_tbl (show _ ∈ tables_1 from List.mem_append_right _ (List.mem_append_left _ (show _ ∈ tables_1_2 from List.mem_of_getElem? (i := 87) (by decide +kernel)))) (by decide +kernel)
theorem w_328 : Cond.code ⟨"EnclaveWarden", "enclave", "(I)I"⟩ prog_1_method_16_code 2 (Option.some .int) ∈ WS := ws_tbl (show _ ∈ tables_1 from List.mem_append_right _ (List.mem_append_left _ (show _ ∈ tables_1_2 from List.mem_of_getElem? (i := 88) rfl))) (by decide +kernel)
theorem w_329 : Cond.methodLink "EnclaveWardenLaw" 87 ⟨"EnclaveWarden", "thread", "(II)I"⟩ ∈ WS := ws_tbl (show _ ∈ tables_1 from List.mem_append_right _ (List.mem_append_left _ (show _ ∈ tables_1_2 from List.mem_of_getElem? (i := 89) (by decide +kernel)))) (by decide +kernel)
theorem w_330 : Cond.instanceMethod ⟨"EnclaveWarden", "thread", "(II)I"⟩ ∈ WS := ws_tbl (show _ ∈ tables_1 from List.mem_append_right _ (List.mem_append_left _ (show _ ∈ tables_1_2 from List.mem_of_getElem? (i := 90) (by decide +kernel)))) (by decide +kernel)
theorem w_331 : Cond.selects "EnclaveWarden" ⟨"EnclaveWarden", "thread", "(II)I"⟩ ⟨"EnclaveWarden", "thread", "(II)I"⟩ ∈ WS := ws_tbl (show _ ∈ tables_1 from List.mem_append_right _ (List.mem_append_left _ (show _ ∈ tables_1_2 from List.mem_of_getElem? (i := 91) (by decide +kernel)))) (by decide +kernel)
theorem w_332 : Cond.code ⟨"EnclaveWarden", "thread", "(II)I"⟩ prog_1_method_17_code 3 (Option.some .int) ∈ WS := ws_tbl (show _ ∈ tables_1 from List.mem_append_right _ (List.mem_append_left _ (show _ ∈ tables_1_2 from List.mem_of_getElem? (i := 92) rfl))) (by decide +kernel)
theorem w_333 : Cond.methodLink "EnclaveWardenLaw" 92 ⟨"EnclaveWarden", "kept", "(III)I"⟩ ∈ WS := ws_tbl (show _ ∈ tables_1 from List.mem_append_right _ (List.mem_append_left _ (show _ ∈ tables_1_2 from List.mem_of_getElem? (i := 93) (by decide +kernel)))) (by decide +kernel)
theorem w_334 : Cond.instanceMethod ⟨"EnclaveWarden", "kept", "(III)I"⟩ ∈ WS := ws_tbl (show _ ∈ tables_1 from List.mem_append_right _ (List.mem_append_left _ (show _ ∈ tables_1_2 from List.mem_of_getElem? (i := 94) (by decide +kernel)))) (by decide +kernel)
theorem w_335 : Cond.selects "EnclaveWarden" ⟨"EnclaveWarden", "kept", "(III)I"⟩ ⟨"EnclaveWarden", "kept", "(III)I"⟩ ∈ WS := ws_tbl (show _ ∈ tables_1 from List.mem_append_right _ (List.mem_append_left _ (show _ ∈ tables_1_2 from List.mem_of_getElem? (i := 95) (by decide +kernel)))) (by decide +kernel)
theorem w_336 : Cond.code ⟨"EnclaveWarden", "kept", "(III)I"⟩ prog_1_method_18_code 5 (Option.some .int) ∈ WS := ws_tbl (show _ ∈ tables_1 from List.mem_append_right _ (List.mem_append_left _ (show _ ∈ tables_1_2 from List.mem_of_getElem? (i := 96) rfl))) (by decide +kernel)
theorem w_337 : Cond.methodLink "EnclaveWardenLaw" 97 ⟨"EnclaveWarden", "measure", "(I)I"⟩ ∈ WS := ws_tbl (show _ ∈ tables_1 from List.mem_append_right _ (List.mem_append_left _ (show _ ∈ tables_1_2 from List.mem_of_getElem? (i := 97) (by decide +kernel)))) (by decide +kernel)
theorem w_338 : Cond.instanceMethod ⟨"EnclaveWarden", "measure", "(I)I"⟩ ∈ WS := ws_tbl (show _ ∈ tables_1 from List.mem_append_right _ (List.mem_append_left _ (show _ ∈ tables_1_2 from List.mem_of_getElem? (i := 98) (by decide +kernel)))) (by decide +kernel)
theorem w_339 : Cond.selects "EnclaveWarden" ⟨"EnclaveWarden", "measure", "(I)I"⟩ ⟨"EnclaveWarden", "measure", "(I)I"⟩ ∈ WS := ws_tbl (show _ ∈ tables_1 from List.mem_append_right _ (List.mem_append_left _ (show _ ∈ tables_1_2 from List.mem_of_getElem? (i := 99) (by decide +kernel)))) (by decide +kernel)
theorem w_340 : Cond.code ⟨"EnclaveWarden", "measure", "(I)I"⟩ prog_1_method_19_code 2 (Option.some .int) ∈ WS := ws_tbl (show _ ∈ tables_1 from List.mem_append_right _ (List.mem_append_left _ (show _ ∈ tables_1_2 from List.mem_of_getElem? (i := 100) rfl))) (by decide +kernel)
theorem w_341 : Cond.methodLink "EnclaveWardenLaw" 101 ⟨"EnclaveWarden", "vouch", "(III)Z"⟩ ∈ WS := ws_tbl (show _ ∈ tables_1 from List.mem_append_right _ (List.mem_append_left _ (show _ ∈ tables_1_2 from List.mem_of_getElem? (i := 101) (by decide +kernel)))) (by decide +kernel)
theorem w_342 : Cond.instanceMethod ⟨"EnclaveWarden", "vouch", "(III)Z"⟩ ∈ WS := ws_tbl (show _ ∈ tables_1 from List.mem_append_right _ (List.mem_append_left _ (show _ ∈ tables_1_2 from List.mem_of_getElem? (i := 102) (by decide +kernel)))) (by decide +kernel)
theorem w_343 : Cond.selects "EnclaveWarden" ⟨"EnclaveWarden", "vouch", "(III)Z"⟩ ⟨"EnclaveWarden", "vouch", "(III)Z"⟩ ∈ WS := ws_tbl (show _ ∈ tables_1 from List.mem_append_right _ (List.mem_append_left _ (show _ ∈ tables_1_2 from List.mem_of_getElem? (i := 103) (by decide +kernel)))) (by decide +kernel)
theorem w_344 : Cond.code ⟨"EnclaveWarden", "vouch", "(III)Z"⟩ prog_1_method_20_code 4 (Option.some .boolean) ∈ WS := ws_tbl (show _ ∈ tables_1 from List.mem_append_right _ (List.mem_append_left _ (show _ ∈ tables_1_2 from List.mem_of_getElem? (i := 104) rfl))) (by decide +kernel)
theorem w_345 : Cond.methodLink "EnclaveWardenLaw" 106 ⟨"EnclaveWarden", "exit", "(I)I"⟩ ∈ WS := ws_tbl (show _ ∈ tables_1 from List.mem_append_right _ (List.mem_append_left _ (show _ ∈ tables_1_2 from List.mem_of_getElem? (i := 105) (by decide +kernel)))) (by decide +kernel)
theorem w_346 : Cond.instanceMethod ⟨"EnclaveWarden", "exit", "(I)I"⟩ ∈ WS := ws_tbl (show _ ∈ tables_1 from List.mem_append_right _ (List.mem_append_left _ (show _ ∈ tables_1_2 from List.mem_of_getElem? (i := 106) (by decide +kernel)))) (by decide +kernel)
theorem w_347 : Cond.selects "EnclaveWarden" ⟨"EnclaveWarden", "exit", "(I)I"⟩ ⟨"EnclaveWarden", "exit", "(I)I"⟩ ∈ WS := ws_tbl (show _ ∈ tables_1 from List.mem_append_right _ (List.mem_append_left _ (show _ ∈ tables_1_2 from List.mem_of_getElem? (i := 107) (by decide +kernel)))) (by decide +kernel)
theorem w_348 : Cond.code ⟨"EnclaveWarden", "exit", "(I)I"⟩ prog_1_method_21_code 2 (Option.some .int) ∈ WS := ws_tbl (show _ ∈ tables_1 from List.mem_append_right _ (List.mem_append_left _ (show _ ∈ tables_1_2 from List.mem_of_getElem? (i := 108) rfl))) (by decide +kernel)
theorem w_429 : Cond.methodLink "EnclaveWardenLaw" 25 ⟨"EnclaveWardenModel", "poke", "(II)Z"⟩ ∈ WS := ws_tbl (show _ ∈ tables_1 from List.mem_append_right _ (List.mem_append_left _ (show _ ∈ tables_1_2 from List.mem_of_getElem? (i := 189) (by decide +kernel)))) (by decide +kernel)
theorem w_430 : Cond.instanceMethod ⟨"EnclaveWardenModel", "poke", "(II)Z"⟩ ∈ WS := ws_tbl (show _ ∈ tables_1 from List.mem_append_right _ (List.mem_append_left _ (show _ ∈ tables_1_2 from List.mem_of_getElem? (i := 190) (by decide +kernel)))) (by decide +kernel)
theorem w_431 : Cond.selects "EnclaveWardenModel" ⟨"EnclaveWardenModel", "poke", "(II)Z"⟩ ⟨"EnclaveWardenModel", "poke", "(II)Z"⟩ ∈ WS := ws_tbl (show _ ∈ tables_1 from List.mem_append_right _ (List.mem_append_left _ (show _ ∈ tables_1_2 from List.mem_of_getElem? (i := 191) (by decide +kernel)))) (by decide +kernel)
theorem w_432 : Cond.code ⟨"EnclaveWardenModel", "poke", "(II)Z"⟩ prog_6_method_26_code 3 (Option.some .boolean) ∈ WS := ws_tbl (show _ ∈ tables_1 from List.mem_append_right _ (List.mem_append_left _ (show _ ∈ tables_1_2 from List.mem_of_getElem? (i := 192) rfl))) (by decide +kernel)
theorem w_444 : Cond.methodLink "EnclaveWardenLaw" 30 ⟨"EnclaveWardenModel", "peek", "(I)I"⟩ ∈ WS := ws_tbl (show _ ∈ tables_1 from List.mem_append_right _ (List.mem_append_left _ (show _ ∈ tables_1_2 from List.mem_of_getElem? (i := 204) (by decide +kernel)))) (by decide +kernel)
theorem w_445 : Cond.instanceMethod ⟨"EnclaveWardenModel", "peek", "(I)I"⟩ ∈ WS := ws_tbl (show _ ∈ tables_1 from List.mem_append_right _ (List.mem_append_left _ (show _ ∈ tables_1_2 from List.mem_of_getElem? (i := 205) (by decide +kernel)))) (by decide +kernel)
theorem w_446 : Cond.selects "EnclaveWardenModel" ⟨"EnclaveWardenModel", "peek", "(I)I"⟩ ⟨"EnclaveWardenModel", "peek", "(I)I"⟩ ∈ WS := ws_tbl (show _ ∈ tables_1 from List.mem_append_right _ (List.mem_append_left _ (show _ ∈ tables_1_2 from List.mem_of_getElem? (i := 206) (by decide +kernel)))) (by decide +kernel)
theorem w_447 : Cond.code ⟨"EnclaveWardenModel", "peek", "(I)I"⟩ prog_6_method_27_code 2 (Option.some .int) ∈ WS := ws_tbl (show _ ∈ tables_1 from List.mem_append_right _ (List.mem_append_left _ (show _ ∈ tables_1_2 from List.mem_of_getElem? (i := 207) rfl))) (by decide +kernel)
theorem w_448 : Cond.methodLink "EnclaveWardenLaw" 34 ⟨"EnclaveWardenModel", "bare", "(I)I"⟩ ∈ WS := ws_tbl (show _ ∈ tables_1 from List.mem_append_right _ (List.mem_append_left _ (show _ ∈ tables_1_2 from List.mem_of_getElem? (i := 208) (by decide +kernel)))) (by decide +kernel)
theorem w_449 : Cond.instanceMethod ⟨"EnclaveWardenModel", "bare", "(I)I"⟩ ∈ WS := ws_tbl (show _ ∈ tables_1 from List.mem_append_right _ (List.mem_append_left _ (show _ ∈ tables_1_2 from List.mem_of_getElem? (i := 209) (by decide +kernel)))) (by decide +kernel)
theorem w_450 : Cond.selects "EnclaveWardenModel" ⟨"EnclaveWardenModel", "bare", "(I)I"⟩ ⟨"EnclaveWardenModel", "bare", "(I)I"⟩ ∈ WS := ws_tbl (show _ ∈ tables_1 from List.mem_append_right _ (List.mem_append_left _ (show _ ∈ tables_1_2 from List.mem_of_getElem? (i := 210) (by decide +kernel)))) (by decide +kernel)
theorem w_451 : Cond.code ⟨"EnclaveWardenModel", "bare", "(I)I"⟩ prog_6_method_28_code 2 (Option.some .int) ∈ WS := ws_tbl (show _ ∈ tables_1 from List.mem_append_right _ (List.mem_append_left _ (show _ ∈ tables_1_2 from List.mem_of_getElem? (i := 211) rfl))) (by decide +kernel)
theorem w_452 : Cond.methodLink "EnclaveWardenLaw" 38 ⟨"EnclaveWardenModel", "give", "(II)Z"⟩ ∈ WS := ws_tbl (show _ ∈ tables_1 from List.mem_append_right _ (List.mem_append_left _ (show _ ∈ tables_1_2 from List.mem_of_getElem? (i := 212) (by decide +kernel)))) (by decide +kernel)
theorem w_453 : Cond.instanceMethod ⟨"EnclaveWardenModel", "give", "(II)Z"⟩ ∈ WS := ws_tbl (show _ ∈ tables_1 from List.mem_append_right _ (List.mem_append_left _ (show _ ∈ tables_1_2 from List.mem_of_getElem? (i := 213) (by decide +kernel)))) (by decide +kernel)
theorem w_454 : Cond.selects "EnclaveWardenModel" ⟨"EnclaveWardenModel", "give", "(II)Z"⟩ ⟨"EnclaveWardenModel", "give", "(II)Z"⟩ ∈ WS := ws_tbl (show _ ∈ tables_1 from List.mem_append_right _ (List.mem_append_left _ (show _ ∈ tables_1_2 from List.mem_of_getElem? (i := 214) (by decide +kernel)))) (by decide +kernel)
theorem w_455 : Cond.code ⟨"EnclaveWardenModel", "give", "(II)Z"⟩ prog_6_method_29_code 3 (Option.some .boolean) ∈ WS := ws_tbl (show _ ∈ tables_1 from List.mem_append_right _ (List.mem_append_left _ (show _ ∈ tables_1_2 from List.mem_of_getElem? (i := 215) rfl))) (by decide +kernel)
theorem w_456 : Cond.methodLink "EnclaveWardenLaw" 42 ⟨"EnclaveWardenModel", "register", "(I)I"⟩ ∈ WS := ws_tbl (show _ ∈ tables_1 from List.mem_append_right _ (List.mem_append_left _ (show _ ∈ tables_1_2 from List.mem_of_getElem? (i := 216) (by decide +kernel)))) (by decide +kernel)
theorem w_457 : Cond.instanceMethod ⟨"EnclaveWardenModel", "register", "(I)I"⟩ ∈ WS := ws_tbl (show _ ∈ tables_1 from List.mem_append_right _ (List.mem_append_left _ (show _ ∈ tables_1_2 from List.mem_of_getElem? (i := 217) (by decide +kernel)))) (by decide +kernel)
theorem w_458 : Cond.selects "EnclaveWardenModel" ⟨"EnclaveWardenModel", "register", "(I)I"⟩ ⟨"EnclaveWardenModel", "register", "(I)I"⟩ ∈ WS := ws_tbl (show _ ∈ tables_1 from List.mem_append_right _ (List.mem_append_left _ (show _ ∈ tables_1_2 from List.mem_of_getElem? (i := 218) (by decide +kernel)))) (by decide +kernel)
theorem w_459 : Cond.code ⟨"EnclaveWardenModel", "register", "(I)I"⟩ prog_6_method_30_code 2 (Option.some .int) ∈ WS := ws_tbl (show _ ∈ tables_1 from List.mem_append_right _ (List.mem_append_left _ (show _ ∈ tables_1_2 from List.mem_of_getElem? (i := 219) rfl))) (by decide +kernel)
theorem w_460 : Cond.methodLink "EnclaveWardenLaw" 47 ⟨"EnclaveWardenModel", "pc", "()I"⟩ ∈ WS := ws_tbl (show _ ∈ tables_1 from List.mem_append_right _ (List.mem_append_left _ (show _ ∈ tables_1_2 from List.mem_of_getElem? (i := 220) (by decide +kernel)))) (by decide +kernel)
theorem w_461 : Cond.instanceMethod ⟨"EnclaveWardenModel", "pc", "()I"⟩ ∈ WS := ws_tbl (show _ ∈ tables_1 from List.mem_append_right _ (List.mem_append_left _ (show _ ∈ tables_1_2 from List.mem_of_getElem? (i := 221) (by decide +kernel)))) (by decide +kernel)
theorem w_462 : Cond.selects "EnclaveWardenModel" ⟨"EnclaveWardenModel", "pc", "()I"⟩ ⟨"EnclaveWardenModel", "pc", "()I"⟩ ∈ WS := ws_tbl (show _ ∈ tables_1 from List.mem_append_right _ (List.mem_append_left _ (show _ ∈ tables_1_2 from List.mem_of_getElem? (i := 222) (by decide +kernel)))) (by decide +kernel)
theorem w_463 : Cond.code ⟨"EnclaveWardenModel", "pc", "()I"⟩ prog_6_method_31_code 1 (Option.some .int) ∈ WS := ws_tbl (show _ ∈ tables_1 from List.mem_append_right _ (List.mem_append_left _ (show _ ∈ tables_1_2 from List.mem_of_getElem? (i := 223) rfl))) (by decide +kernel)
theorem w_464 : Cond.methodLink "EnclaveWardenLaw" 52 ⟨"EnclaveWardenModel", "boot", "(I)Z"⟩ ∈ WS := ws_tbl (show _ ∈ tables_1 from List.mem_append_right _ (List.mem_append_left _ (show _ ∈ tables_1_2 from List.mem_of_getElem? (i := 224) (by decide +kernel)))) (by decide +kernel)
theorem w_465 : Cond.instanceMethod ⟨"EnclaveWardenModel", "boot", "(I)Z"⟩ ∈ WS := ws_tbl (show _ ∈ tables_1 from List.mem_append_right _ (List.mem_append_left _ (show _ ∈ tables_1_2 from List.mem_of_getElem? (i := 225) (by decide +kernel)))) (by decide +kernel)
theorem w_466 : Cond.selects "EnclaveWardenModel" ⟨"EnclaveWardenModel", "boot", "(I)Z"⟩ ⟨"EnclaveWardenModel", "boot", "(I)Z"⟩ ∈ WS := ws_tbl (show _ ∈ tables_1 from List.mem_append_right _ (List.mem_append_left _ (show _ ∈ tables_1_2 from List.mem_of_getElem? (i := 226) (by decide +kernel)))) (by decide +kernel)
theorem w_467 : Cond.code ⟨"EnclaveWardenModel", "boot", "(I)Z"⟩ prog_6_method_32_code 2 (Option.some .boolean) ∈ WS := ws_tbl (show _ ∈ tables_1 from List.mem_append_right _ (List.mem_append_left _ (show _ ∈ tables_1_2 from List.mem_of_getElem? (i := 227) rfl))) (by decide +kernel)
theorem w_468 : Cond.methodLink "EnclaveWardenLaw" 57 ⟨"EnclaveWardenModel", "halted", "()Z"⟩ ∈ WS := ws_tbl (show _ ∈ tables_1 from List.mem_append_right _ (List.mem_append_left _ (show _ ∈ tables_1_2 from List.mem_of_getElem? (i := 228) (by decide +kernel)))) (by decide +kernel)
theorem w_469 : Cond.instanceMethod ⟨"EnclaveWardenModel", "halted", "()Z"⟩ ∈ WS := ws_tbl (show _ ∈ tables_1 from List.mem_append_right _ (List.mem_append_left _ (show _ ∈ tables_1_2 from List.mem_of_getElem? (i := 229) (by decide +kernel)))) (by decide +kernel)
theorem w_470 : Cond.selects "EnclaveWardenModel" ⟨"EnclaveWardenModel", "halted", "()Z"⟩ ⟨"EnclaveWardenModel", "halted", "()Z"⟩ ∈ WS := ws_tbl (show _ ∈ tables_1 from List.mem_append_right _ (List.mem_append_left _ (show _ ∈ tables_1_2 from List.mem_of_getElem? (i := 230) (by decide +kernel)))) (by decide +kernel)
theorem w_471 : Cond.code ⟨"EnclaveWardenModel", "halted", "()Z"⟩ prog_6_method_33_code 1 (Option.some .boolean) ∈ WS := ws_tbl (show _ ∈ tables_1 from List.mem_append_right _ (List.mem_append_left _ (show _ ∈ tables_1_2 from List.mem_of_getElem? (i := 231) rfl))) (by decide +kernel)
theorem w_472 : Cond.methodLink "EnclaveWardenLaw" 62 ⟨"EnclaveWardenModel", "call", "(IIII)I"⟩ ∈ WS := ws_tbl (show _ ∈ tables_1 from List.mem_append_right _ (List.mem_append_left _ (show _ ∈ tables_1_2 from List.mem_of_getElem? (i := 232) (by decide +kernel)))) (by decide +kernel)
theorem w_473 : Cond.instanceMethod ⟨"EnclaveWardenModel", "call", "(IIII)I"⟩ ∈ WS := ws_tbl (show _ ∈ tables_1 from List.mem_append_right _ (List.mem_append_left _ (show _ ∈ tables_1_2 from List.mem_of_getElem? (i := 233) (by decide +kernel)))) (by decide +kernel)
theorem w_474 : Cond.selects "EnclaveWardenModel" ⟨"EnclaveWardenModel", "call", "(IIII)I"⟩ ⟨"EnclaveWardenModel", "call", "(IIII)I"⟩ ∈ WS := ws_tbl (show _ ∈ tables_1 from List.mem_append_right _ (List.mem_append_left _ (show _ ∈ tables_1_2 from List.mem_of_getElem? (i := 234) (by decide +kernel)))) (by decide +kernel)
theorem w_475 : Cond.code ⟨"EnclaveWardenModel", "call", "(IIII)I"⟩ prog_6_method_34_code 5 (Option.some .int) ∈ WS := ws_tbl (show _ ∈ tables_1 from List.mem_append_right _ (List.mem_append_left _ (show _ ∈ tables_1_2 from List.mem_of_getElem? (i := 235) rfl))) (by decide +kernel)
theorem w_527 : Cond.methodLink "EnclaveWardenLaw" 66 ⟨"EnclaveWardenModel", "run", "(I)I"⟩ ∈ WS := ws_tbl (show _ ∈ tables_1 from List.mem_append_right _ (List.mem_append_right _ ((show _ ∈ tables_1_3 from List.mem_of_getElem? (i := 47) (by decide +kernel))))) (by decide +kernel)
theorem w_528 : Cond.instanceMethod ⟨"EnclaveWardenModel", "run", "(I)I"⟩ ∈ WS := ws_tbl (show _ ∈ tables_1 from List.mem_append_right _ (List.mem_append_right _ ((show _ ∈ tables_1_3 from List.mem_of_getElem? (i := 48) (by decide +kernel))))) (by decide +kernel)
theorem w_529 : Cond.selects "EnclaveWardenModel" ⟨"EnclaveWardenModel", "run", "(I)I"⟩ ⟨"EnclaveWardenModel", "run", "(I)I"⟩ ∈ WS := ws_tbl (show _ ∈ tables_1 from List.mem_append_right _ (List.mem_append_right _ ((show _ ∈ tables_1_3 from List.mem_of_getElem? (i := 49) (by decide +kernel))))) (by decide +kernel)
theorem w_530 : Cond.code ⟨"EnclaveWardenModel", "run", "(I)I"⟩ prog_6_method_35_code 3 (Option.some .int) ∈ WS := ws_tbl (show _ ∈ tables_1 from List.mem_append_right _ (List.mem_append_right _ ((show _ ∈ tables_1_3 from List.mem_of_getElem? (i := 50) rfl)))) (by decide +kernel)
theorem w_567 : Cond.methodLink "EnclaveWardenLaw" 70 ⟨"EnclaveWardenModel", "period", "(I)V"⟩ ∈ WS := ws_tbl (show _ ∈ tables_1 from List.mem_append_right _ (List.mem_append_right _ ((show _ ∈ tables_1_3 from List.mem_of_getElem? (i := 87) (by decide +kernel))))) (by decide +kernel)
theorem w_568 : Cond.instanceMethod ⟨"EnclaveWardenModel", "period", "(I)V"⟩ ∈ WS := ws_tbl (show _ ∈ tables_1 from List.mem_append_right _ (List.mem_append_right _ ((show _ ∈ tables_1_3 from List.mem_of_getElem? (i := 88) (by decide +kernel))))) (by decide +kernel)
theorem w_569 : Cond.selects "EnclaveWardenModel" ⟨"EnclaveWardenModel", "period", "(I)V"⟩ ⟨"EnclaveWardenModel", "period", "(I)V"⟩ ∈ WS := ws_tbl (show _ ∈ tables_1 from List.mem_append_right _ (List.mem_append_right _ ((show _ ∈ tables_1_3 from List.mem_of_getElem? (i := 89) (by decide +kernel))))) (by decide +kernel)
theorem w_570 : Cond.code ⟨"EnclaveWardenModel", "period", "(I)V"⟩ prog_6_method_36_code 2 none ∈ WS := ws_tbl (show _ ∈ tables_1 from List.mem_append_right _ (List.mem_append_right _ ((show _ ∈ tables_1_3 from List.mem_of_getElem? (i := 90) rfl)))) (by decide +kernel)
theorem w_571 : Cond.methodLink "EnclaveWardenLaw" 74 ⟨"EnclaveWardenModel", "tick", "()I"⟩ ∈ WS := ws_tbl (show _ ∈ tables_1 from List.mem_append_right _ (List.mem_append_right _ ((show _ ∈ tables_1_3 from List.mem_of_getElem? (i := 91) (by decide +kernel))))) (by decide +kernel)
theorem w_572 : Cond.instanceMethod ⟨"EnclaveWardenModel", "tick", "()I"⟩ ∈ WS := ws_tbl (show _ ∈ tables_1 from List.mem_append_right _ (List.mem_append_right _ ((show _ ∈ tables_1_3 from List.mem_of_getElem? (i := 92) (by decide +kernel))))) (by decide +kernel)
theorem w_573 : Cond.selects "EnclaveWardenModel" ⟨"EnclaveWardenModel", "tick", "()I"⟩ ⟨"EnclaveWardenModel", "tick", "()I"⟩ ∈ WS := ws_tbl (show _ ∈ tables_1 from List.mem_append_right _ (List.mem_append_right _ ((show _ ∈ tables_1_3 from List.mem_of_getElem? (i := 93) (by decide +kernel))))) (by decide +kernel)
theorem w_574 : Cond.code ⟨"EnclaveWardenModel", "tick", "()I"⟩ prog_6_method_37_code 1 (Option.some .int) ∈ WS := ws_tbl (show _ ∈ tables_1 from List.mem_append_right _ (List.mem_append_right _ ((show _ ∈ tables_1_3 from List.mem_of_getElem? (i := 94) rfl)))) (by decide +kernel)
theorem w_575 : Cond.methodLink "EnclaveWardenLaw" 78 ⟨"EnclaveWardenModel", "running", "()I"⟩ ∈ WS := ws_tbl (show _ ∈ tables_1 from List.mem_append_right _ (List.mem_append_right _ ((show _ ∈ tables_1_3 from List.mem_of_getElem? (i := 95) (by decide +kernel))))) (by decide +kernel)
theorem w_576 : Cond.instanceMethod ⟨"EnclaveWardenModel", "running", "()I"⟩ ∈ WS := ws_tbl (show _ ∈ tables_1 from List.mem_append_right _ (List.mem_append_right _ ((show _ ∈ tables_1_3 from List.mem_of_getElem? (i := 96) (by decide +kernel))))) (by decide +kernel)
theorem w_577 : Cond.selects "EnclaveWardenModel" ⟨"EnclaveWardenModel", "running", "()I"⟩ ⟨"EnclaveWardenModel", "running", "()I"⟩ ∈ WS := ws_tbl (show _ ∈ tables_1 from List.mem_append_right _ (List.mem_append_right _ ((show _ ∈ tables_1_3 from List.mem_of_getElem? (i := 97) (by decide +kernel))))) (by decide +kernel)
theorem w_578 : Cond.code ⟨"EnclaveWardenModel", "running", "()I"⟩ prog_6_method_38_code 1 (Option.some .int) ∈ WS := ws_tbl (show _ ∈ tables_1 from List.mem_append_right _ (List.mem_append_right _ ((show _ ∈ tables_1_3 from List.mem_of_getElem? (i := 98) rfl)))) (by decide +kernel)
theorem w_579 : Cond.methodLink "EnclaveWardenLaw" 82 ⟨"EnclaveWardenModel", "region", "(I)I"⟩ ∈ WS := ws_tbl (show _ ∈ tables_1 from List.mem_append_right _ (List.mem_append_right _ ((show _ ∈ tables_1_3 from List.mem_of_getElem? (i := 99) (by decide +kernel))))) (by decide +kernel)
theorem w_580 : Cond.instanceMethod ⟨"EnclaveWardenModel", "region", "(I)I"⟩ ∈ WS := ws_tbl (show _ ∈ tables_1 from List.mem_append_right _ (List.mem_append_right _ ((show _ ∈ tables_1_3 from List.mem_of_getElem? (i := 100) (by decide +kernel))))) (by decide +kernel)
theorem w_581 : Cond.selects "EnclaveWardenModel" ⟨"EnclaveWardenModel", "region", "(I)I"⟩ ⟨"EnclaveWardenModel", "region", "(I)I"⟩ ∈ WS := ws_tbl (show _ ∈ tables_1 from List.mem_append_right _ (List.mem_append_right _ ((show _ ∈ tables_1_3 from List.mem_of_getElem? (i := 101) (by decide +kernel))))) (by decide +kernel)
theorem w_582 : Cond.code ⟨"EnclaveWardenModel", "region", "(I)I"⟩ prog_6_method_39_code 2 (Option.some .int) ∈ WS := ws_tbl (show _ ∈ tables_1 from List.mem_append_right _ (List.mem_append_right _ ((show _ ∈ tables_1_3 from List.mem_of_getElem? (i := 102) rfl)))) (by decide +kernel)
theorem w_583 : Cond.methodLink "EnclaveWardenLaw" 86 ⟨"EnclaveWardenModel", "enclave", "(I)I"⟩ ∈ WS := ws_tbl (show _ ∈ tables_1 from List.mem_append_right _ (List.mem_append_right _ ((show _ ∈ tables_1_3 from List.mem_of_getElem? (i := 103) (by decide +kernel))))) (by decide +kernel)
theorem w_584 : Cond.instanceMethod ⟨"EnclaveWardenModel", "enclave", "(I)I"⟩ ∈ WS := ws_tbl (show _ ∈ tables_1 from List.mem_append_right _ (List.mem_append_right _ ((show _ ∈ tables_1_3 from List.mem_of_getElem? (i := 104) (by decide +kernel))))) (by decide +kernel)
theorem w_585 : Cond.selects "EnclaveWardenModel" ⟨"EnclaveWardenModel", "enclave", "(I)I"⟩ ⟨"EnclaveWardenModel", "enclave", "(I)I"⟩ ∈ WS := ws_tbl (show _ ∈ tables_1 from List.mem_append_right _ (List.mem_append_right _ ((show _ ∈ tables_1_3 from List.mem_of_getElem? (i := 105) (by decide +kernel))))) (by decide +kernel)
theorem w_586 : Cond.code ⟨"EnclaveWardenModel", "enclave", "(I)I"⟩ prog_6_method_40_code 2 (Option.some .int) ∈ WS := ws_tbl (show _ ∈ tables_1 from List.mem_append_right _ (List.mem_append_right _ ((show _ ∈ tables_1_3 from List.mem_of_getElem? (i := 106) rfl)))) (by decide +kernel)
theorem w_587 : Cond.methodLink "EnclaveWardenLaw" 91 ⟨"EnclaveWardenModel", "thread", "(II)I"⟩ ∈ WS := ws_tbl (show _ ∈ tables_1 from List.mem_append_right _ (List.mem_append_right _ ((show _ ∈ tables_1_3 from List.mem_of_getElem? (i := 107) (by decide +kernel))))) (by decide +kernel)
theorem w_588 : Cond.methodLink "EnclaveWardenLaw" 96 ⟨"EnclaveWardenModel", "kept", "(III)I"⟩ ∈ WS := ws_tbl (show _ ∈ tables_1 from List.mem_append_right _ (List.mem_append_right _ ((show _ ∈ tables_1_3 from List.mem_of_getElem? (i := 108) (by decide +kernel))))) (by decide +kernel)
theorem w_589 : Cond.instanceMethod ⟨"EnclaveWardenModel", "kept", "(III)I"⟩ ∈ WS := ws_tbl (show _ ∈ tables_1 from List.mem_append_right _ (List.mem_append_right _ ((show _ ∈ tables_1_3 from List.mem_of_getElem? (i := 109) (by decide +kernel))))) (by decide +kernel)
theorem w_590 : Cond.selects "EnclaveWardenModel" ⟨"EnclaveWardenModel", "kept", "(III)I"⟩ ⟨"EnclaveWardenModel", "kept", "(III)I"⟩ ∈ WS := ws_tbl (show _ ∈ tables_1 from List.mem_append_right _ (List.mem_append_right _ ((show _ ∈ tables_1_3 from List.mem_of_getElem? (i := 110) (by decide +kernel))))) (by decide +kernel)
theorem w_591 : Cond.code ⟨"EnclaveWardenModel", "kept", "(III)I"⟩ prog_6_method_42_code 4 (Option.some .int) ∈ WS := ws_tbl (show _ ∈ tables_1 from List.mem_append_right _ (List.mem_append_right _ ((show _ ∈ tables_1_3 from List.mem_of_getElem? (i := 111) rfl)))) (by decide +kernel)
theorem w_592 : Cond.methodLink "EnclaveWardenLaw" 100 ⟨"EnclaveWardenModel", "measure", "(I)I"⟩ ∈ WS := ws_tbl (show _ ∈ tables_1 from List.mem_append_right _ (List.mem_append_right _ ((show _ ∈ tables_1_3 from List.mem_of_getElem? (i := 112) (by decide +kernel))))) (by decide +kernel)
theorem w_593 : Cond.instanceMethod ⟨"EnclaveWardenModel", "measure", "(I)I"⟩ ∈ WS := ws_tbl (show _ ∈ tables_1 from List.mem_append_right _ (List.mem_append_right _ ((show _ ∈ tables_1_3 from List.mem_of_getElem? (i := 113) (by decide +kernel))))) (by decide +kernel)
theorem w_594 : Cond.selects "EnclaveWardenModel" ⟨"EnclaveWardenModel", "measure", "(I)I"⟩ ⟨"EnclaveWardenModel", "measure", "(I)I"⟩ ∈ WS := ws_tbl (show _ ∈ tables_1 from List.mem_append_right _ (List.mem_append_right _ ((show _ ∈ tables_1_3 from List.mem_of_getElem? (i := 114) (by decide +kernel))))) (by decide +kernel)
theorem w_595 : Cond.code ⟨"EnclaveWardenModel", "measure", "(I)I"⟩ prog_6_method_43_code 2 (Option.some .int) ∈ WS := ws_tbl (show _ ∈ tables_1 from List.mem_append_right _ (List.mem_append_right _ ((show _ ∈ tables_1_3 from List.mem_of_getElem? (i := 115) rfl)))) (by decide +kernel)
theorem w_596 : Cond.methodLink "EnclaveWardenLaw" 105 ⟨"EnclaveWardenModel", "vouch", "(III)Z"⟩ ∈ WS := ws_tbl (show _ ∈ tables_1 from List.mem_append_right _ (List.mem_append_right _ ((show _ ∈ tables_1_3 from List.mem_of_getElem? (i := 116) (by decide +kernel))))) (by decide +kernel)
theorem w_597 : Cond.instanceMethod ⟨"EnclaveWardenModel", "vouch", "(III)Z"⟩ ∈ WS := ws_tbl (show _ ∈ tables_1 from List.mem_append_right _ (List.mem_append_right _ ((show _ ∈ tables_1_3 from List.mem_of_getElem? (i := 117) (by decide +kernel))))) (by decide +kernel)
theorem w_598 : Cond.selects "EnclaveWardenModel" ⟨"EnclaveWardenModel", "vouch", "(III)Z"⟩ ⟨"EnclaveWardenModel", "vouch", "(III)Z"⟩ ∈ WS := ws_tbl (show _ ∈ tables_1 from List.mem_append_right _ (List.mem_append_right _ ((show _ ∈ tables_1_3 from List.mem_of_getElem? (i := 118) (by decide +kernel))))) (by decide +kernel)
theorem w_599 : Cond.code ⟨"EnclaveWardenModel", "vouch", "(III)Z"⟩ prog_6_method_44_code 4 (Option.some .boolean) ∈ WS := ws_tbl (show _ ∈ tables_1 from List.mem_append_right _ (List.mem_append_right _ ((show _ ∈ tables_1_3 from List.mem_of_getElem? (i := 119) rfl)))) (by decide +kernel)
theorem w_600 : Cond.methodLink "EnclaveWardenLaw" 109 ⟨"EnclaveWardenModel", "exit", "(I)I"⟩ ∈ WS := ws_tbl (show _ ∈ tables_1 from List.mem_append_right _ (List.mem_append_right _ ((show _ ∈ tables_1_3 from List.mem_of_getElem? (i := 120) (by decide +kernel))))) (by decide +kernel)
theorem w_601 : Cond.instanceMethod ⟨"EnclaveWardenModel", "exit", "(I)I"⟩ ∈ WS := ws_tbl (show _ ∈ tables_1 from List.mem_append_right _ (List.mem_append_right _ ((show _ ∈ tables_1_3 from List.mem_of_getElem? (i := 121) (by decide +kernel))))) (by decide +kernel)
theorem w_602 : Cond.selects "EnclaveWardenModel" ⟨"EnclaveWardenModel", "exit", "(I)I"⟩ ⟨"EnclaveWardenModel", "exit", "(I)I"⟩ ∈ WS := ws_tbl (show _ ∈ tables_1 from List.mem_append_right _ (List.mem_append_right _ ((show _ ∈ tables_1_3 from List.mem_of_getElem? (i := 122) (by decide +kernel))))) (by decide +kernel)
theorem w_603 : Cond.code ⟨"EnclaveWardenModel", "exit", "(I)I"⟩ prog_6_method_45_code 2 (Option.some .int) ∈ WS := ws_tbl (show _ ∈ tables_1 from List.mem_append_right _ (List.mem_append_right _ ((show _ ∈ tables_1_3 from List.mem_of_getElem? (i := 123) rfl)))) (by decide +kernel)
theorem vP_l {D : va_G} {cl : List vw_C} {w1 w2 : va_W} {H : Heap} (h : va_P D cl (w1 ++ w2) H) : va_P D cl w1 H := fun k q hk => h k q (by rw [List.getElem?_append_left (List.getElem?_eq_some_iff.mp hk).1]; exact hk)
theorem vP_r {D : va_G} {cl : List vw_C} {w1 w2 : va_W} {H : Heap} (h : va_P D cl (w1 ++ w2) H) : va_P D cl w2 H := fun k q hk => h (w1.length + k) q (by rw [List.getElem?_append_right (by omega), Nat.add_sub_cancel_left]; exact hk)
theorem vD_l {A : Nat → Prop} {w1 w2 : va_W} (h : va_D A (w1 ++ w2)) : va_D A w1 := by
  have e : ∀ (k : Nat) (q : Nat × va_E), w1[k]? = some q → (w1 ++ w2)[k]? = some q := fun k q hk => by rw [List.getElem?_append_left (List.getElem?_eq_some_iff.mp hk).1]; exact hk
  exact ⟨fun i j p q hi hj => h.1 i j p q (e i p hi) (e j q hj), fun k q hk => h.2 k q (e k q hk)⟩
theorem vD_r {A : Nat → Prop} {w1 w2 : va_W} (h : va_D A (w1 ++ w2)) : va_D A w2 := by
  have e : ∀ (k : Nat) (q : Nat × va_E), w2[k]? = some q → (w1 ++ w2)[w1.length + k]? = some q := fun k q hk => by rw [List.getElem?_append_right (by omega), Nat.add_sub_cancel_left]; exact hk
  refine ⟨fun i j p q hi hj hpq => ?_, fun k q hk => h.2 _ q (e k q hk)⟩
  have := h.1 _ _ p q (e i p hi) (e j q hj) hpq
  omega
theorem vD_x {A : Nat → Prop} {w1 w2 : va_W} (h : va_D A (w1 ++ w2)) {i j : Nat} {p q : Nat × va_E} (hi : w1[i]? = some p) (hj : w2[j]? = some q) : p.1 ≠ q.1 := by
  intro e
  have hl := (List.getElem?_eq_some_iff.mp hi).1
  have h1 : (w1 ++ w2)[i]? = some p := by rw [List.getElem?_append_left hl]; exact hi
  have h2 : (w1 ++ w2)[w1.length + j]? = some q := by rw [List.getElem?_append_right (by omega), Nat.add_sub_cancel_left]; exact hj
  have := h.1 _ _ p q h1 h2 e
  omega
/-- the frame rule: the left part's method ran -/
theorem fr_l {D : va_G} {cl : List vw_C} {A : Nat → Prop} {w1 w2 w1' : va_W} {H H1 : Heap} (hP : va_P D cl (w1 ++ w2) H) (hD : va_D A (w1 ++ w2)) (hk : ∀ q : Nat, q < H.size → ¬ va_A w1 H.size q → H1[q]? = H[q]?) (hF : ∀ q, va_A w1 H.size q → A q) (hP1 : va_P D cl w1' H1) (hD1 : va_D (va_A w1 H.size) w1') : va_P D cl (w1' ++ w2) H1 ∧ va_D A (w1' ++ w2) := by
  have hP2 := vP_r hP
  have hD2 := vD_r hD
  have ap : ∀ (k : Nat) (q : Nat × va_E), w2[k]? = some q → q.1 < H.size ∧ ¬ va_A w1 H.size q.1 := by
    intro k q hq
    have hl := (hP2 k q hq).lt
    refine ⟨hl, fun h => ?_⟩
    rcases h with ⟨i, e, h⟩ | h
    · exact vD_x hD h hq rfl
    · omega
  refine ⟨va_P.app hP1 (fun k q hq => (hP2 k q hq).kept (hk q.1 (ap k q hq).1 (ap k q hq).2)), va_D.app (hD1.weaken (fun k q _ h => hF q.1 h)) hD2 (fun i j x y hx hy hxy => ?_)⟩
  have h1 := hD1.2 i x hx
  rw [hxy] at h1
  exact (ap j y hy).2 h1
/-- the right part's method ran -/
theorem fr_r {D : va_G} {cl : List vw_C} {A : Nat → Prop} {w1 w2 w2' : va_W} {H H1 : Heap} (hP : va_P D cl (w1 ++ w2) H) (hD : va_D A (w1 ++ w2)) (hk : ∀ q : Nat, q < H.size → ¬ va_A w2 H.size q → H1[q]? = H[q]?) (hF : ∀ q, va_A w2 H.size q → A q) (hP1 : va_P D cl w2' H1) (hD1 : va_D (va_A w2 H.size) w2') : va_P D cl (w1 ++ w2') H1 ∧ va_D A (w1 ++ w2') := by
  have hP2 := vP_l hP
  have hD2 := vD_l hD
  have ap : ∀ (k : Nat) (q : Nat × va_E), w1[k]? = some q → q.1 < H.size ∧ ¬ va_A w2 H.size q.1 := by
    intro k q hq
    have hl := (hP2 k q hq).lt
    refine ⟨hl, fun h => ?_⟩
    rcases h with ⟨i, e, h⟩ | h
    · exact vD_x hD hq h rfl
    · omega
  refine ⟨va_P.app (fun k q hq => (hP2 k q hq).kept (hk q.1 (ap k q hq).1 (ap k q hq).2)) hP1, va_D.app hD2 (hD1.weaken (fun k q _ h => hF q.1 h)) (fun i j x y hx hy hxy => ?_)⟩
  have h1 := hD1.2 j y hy
  rw [← hxy] at h1
  exact (ap i x hx).2 h1
def wL (dI : Nat → ClassId) (ad ad2 : Nat → Nat) (q : eS × eS) : va_W := wE dI ad q.1 ++ wM dI ad2 q.2
section LAW
variable {p : Program} {l : Launch} {e : Env} {R : Room} {s0 : State} {m : MethodId} {args : Array Value} {below : List Frame} {meth : Method} {c : Code} {D : va_G} {A : Nat → Prop} {cc : ByteArray} {nL : Nat} {ret : Option FieldType} {Ts : List Cond} {own : String} {nc ns : Nat} {ρ : Type} {Q : ρ → eS × eS → State → Prop} {res : Option (ρ × (eS × eS))} {ls : Array Slot} {rest : List Value} {q : eS × eS} {dI : Nat → ClassId} {ad ad2 : Nat → Nat}
theorem gl_slen (X : CX p s0 m args meth c D vwCl (tyE dI) nwE A cc nL ret Ts own) (pc : Nat) {b L : Nat} {xs : Nat → Int32} (hX : va_X b L xs s0 s0.heap) (hbl : b < s0.heap.size) (hbA : ¬ A b) (d : decode cc pc = .ok (.arraylength, 1)) (k : GG p l e R s0 m args below meth c D vwCl (tyE dI) A (wL dI ad ad2) nc ns Q res (F0 m (pc + 1) ls (.int (nI L) :: rest)) q) : GG p l e R s0 m args below meth c D vwCl (tyE dI) A (wL dI ad ad2) nc ns Q res (F0 m pc ls (.ref b :: rest)) q := fun r s' hr H locs h1 h2 h3 => va_slen X.1.1 X.1.2.1 hX hbl hbA h3 d (k r s' hr H locs h1 h2 h3)
theorem gl_sld (X : CX p s0 m args meth c D vwCl (tyE dI) nwE A cc nL ret Ts own) (pc : Nat) {b L : Nat} {xs : Nat → Int32} {i : Int32} (hX : va_X b L xs s0 s0.heap) (hbl : b < s0.heap.size) (hbA : ¬ A b) (d : decode cc pc = .ok (.iaload, 1)) (k : GG p l e R s0 m args below meth c D vwCl (tyE dI) A (wL dI ad ad2) nc ns Q res (F0 m (pc + 1) ls (.int (xs i.toNatClampNeg) :: rest)) q) : GG p l e R s0 m args below meth c D vwCl (tyE dI) A (wL dI ad ad2) nc ns Q (ix i L res) (F0 m pc ls (.int i :: .ref b :: rest)) q := by
  intro r s' hr H locs h1 h2 h3
  unfold ix at hr
  by_cases hin : i < 0 ∨ L ≤ i.toNatClampNeg
  · rw [if_pos hin] at hr; cases hr
  · rw [if_neg hin] at hr
    exact va_sld X.1.1 X.1.2.1 hX hbl hbA h3 hin d (k r s' hr H locs h1 h2 h3)
theorem gl_callE {ρ' : Type} (X : CX p s0 m args meth c D vwCl (tyE dI) nwE A cc nL ret Ts own) (pc : Nat) {rv' : ρ' → Option Value} {o : Option (ρ' × eS)} {K : ρ' → eS → Option (ρ × (eS × eS))} {st0 : List Value} {y : MethodName} {bytes : ByteArray} {maxL n index : Nat} {retc : Option FieldType} {ws : List Cond} {rm : Room} (As rest : List Value) (hM : ∀ r s1, o = some (r, s1) → ∀ sz, Met l y ws rm (Px (wE dI ad) D vwCl (tyE dI) nwE sz q.1 (.ref (ad 0) :: As)) (Qx rv' (wE dI ad) D vwCl (tyE dI) (va_A ((wE dI ad) q.1) sz) r s1) 0 0 (va_A ((wE dI ad) q.1) sz)) (cw : CallW R s0 args own R_W index y bytes maxL retc ws rm 0 0 n) (hn : As.length = n) (hsize : ls.size = nL) (hst : st0 = As.reverse ++ .ref (ad 0) :: rest) (hroom : (rest.map fun v => v.category).sum ≤ 8) (hR : nc + 0 ≤ R.cells ∧ ns + 0 ≤ R.slots) (d : decode cc pc = .ok (.invokevirtual index, 3)) (kk : ∀ r s1, GG p l e R s0 m args below meth c D vwCl (tyE dI) A (wL dI ad ad2) nc ns Q (K r s1) (F0 m (pc + 3) ls ((rv' r).toList ++ rest)) (s1, q.2)) : GG p l e R s0 m args below meth c D vwCl (tyE dI) A (wL dI ad ad2) nc ns Q (bnd o K) (F0 m pc ls st0) q := by
  intro r s' hres H locs hP hD hS
  cases ho : o with
  | none => rw [ho] at hres; cases hres
  | some z =>
    obtain ⟨r1, s1⟩ := z
    rw [ho] at hres
    have hk := kk r1 s1 r s' hres
    have hP : va_P D vwCl (wE dI ad q.1 ++ wM dI ad2 q.2) H := hP
    have hD : va_D A (wE dI ad q.1 ++ wM dI ad2 q.2) := hD
    have hPc : va_P D vwCl ((wE dI ad) q.1) H := vP_l hP
    have hDc : va_D A ((wE dI ad) q.1) := vD_l hD
    have hfree := gg_free (w := (wE dI ad)) (s := q.1) X hDc hS
    have hrun := va_runV (As := As) (rest := rest) (locs := locs) (below := below) (e := e) (meth := meth) (cells := nc) (slots := ns) (g := F0 m pc ls st0) X.1 (hM r1 s1 ho H.size) cw ⟨px_blind (by rfl), va_recv (q0 := 0) (ci := 0) X.2.2.2.1 hPc rfl (he_E_Main), fun U hU hW => ⟨rfl, by rw [hU], by rw [hU]; exact hPc, va_K.moved hW.alike X.2.2.2.1, hDc.weaken (fun _ _ _ _ => trivial), nw_warm nwOk_E hW X.2.2.2.2.2⟩⟩ rfl hn hsize hst (lv_room hroom) d hR
    intro T hT X0
    obtain ⟨v, st₀, t, T', L, h0, X', hL, e1, e2, ⟨hv, qP, qK, qD, hz, hkp⟩, st⟩ := hrun T hT X0
    cases hv
    rw [h0] at hz hkp
    have hfr := fr_l hP hD (H1 := T'.heap) (fun q g1 g2 => by rw [e1]; exact hkp q g1 g2) hfree (by rw [e1]; exact qP) qD
    obtain ⟨t2, a1, b1⟩ := hk T'.heap (locs ++ L) hfr.1 hfr.2 ⟨Nat.le_trans hS.1 (by rw [e1]; exact hz), fun q g1 g2 => by rw [e1, hkp q (Nat.lt_of_lt_of_le g1 hS.1) (fun z => g2 (hfree q z))]; exact hS.2.1 q g1 g2, fun q hq => by
      rcases List.mem_append.mp hq with h | h
      · exact hS.2.2 q h
      · exact hfree _ (hL q h)⟩ T' rfl X'
    exact ⟨t2, st t2 a1, b1⟩
theorem gl_callM {ρ' : Type} (X : CX p s0 m args meth c D vwCl (tyE dI) nwE A cc nL ret Ts own) (pc : Nat) {rv' : ρ' → Option Value} {o : Option (ρ' × eS)} {K : ρ' → eS → Option (ρ × (eS × eS))} {st0 : List Value} {y : MethodName} {bytes : ByteArray} {maxL n index : Nat} {retc : Option FieldType} {ws : List Cond} {rm : Room} (As rest : List Value) (hM : ∀ r s1, o = some (r, s1) → ∀ sz, Met l y ws rm (Px (wM dI ad2) D vwCl (tyE dI) [] sz q.2 (.ref (ad2 0) :: As)) (Qx rv' (wM dI ad2) D vwCl (tyE dI) (va_A ((wM dI ad2) q.2) sz) r s1) 0 0 (va_A ((wM dI ad2) q.2) sz)) (cw : CallW R s0 args own R_M index y bytes maxL retc ws rm 0 0 n) (hn : As.length = n) (hsize : ls.size = nL) (hst : st0 = As.reverse ++ .ref (ad2 0) :: rest) (hroom : (rest.map fun v => v.category).sum ≤ 8) (hR : nc + 0 ≤ R.cells ∧ ns + 0 ≤ R.slots) (d : decode cc pc = .ok (.invokevirtual index, 3)) (kk : ∀ r s1, GG p l e R s0 m args below meth c D vwCl (tyE dI) A (wL dI ad ad2) nc ns Q (K r s1) (F0 m (pc + 3) ls ((rv' r).toList ++ rest)) (q.1, s1)) : GG p l e R s0 m args below meth c D vwCl (tyE dI) A (wL dI ad ad2) nc ns Q (bnd o K) (F0 m pc ls st0) q := by
  intro r s' hres H locs hP hD hS
  cases ho : o with
  | none => rw [ho] at hres; cases hres
  | some z =>
    obtain ⟨r1, s1⟩ := z
    rw [ho] at hres
    have hk := kk r1 s1 r s' hres
    have hP : va_P D vwCl (wE dI ad q.1 ++ wM dI ad2 q.2) H := hP
    have hD : va_D A (wE dI ad q.1 ++ wM dI ad2 q.2) := hD
    have hPc : va_P D vwCl ((wM dI ad2) q.2) H := vP_r hP
    have hDc : va_D A ((wM dI ad2) q.2) := vD_r hD
    have hfree := gg_free (w := (wM dI ad2)) (s := q.2) X hDc hS
    have hrun := va_runV (As := As) (rest := rest) (locs := locs) (below := below) (e := e) (meth := meth) (cells := nc) (slots := ns) (g := F0 m pc ls st0) X.1 (hM r1 s1 ho H.size) cw ⟨px_blind (by rfl), va_recv (q0 := 0) (ci := 4) X.2.2.2.1 hPc rfl (he_M_Main), fun U hU hW => ⟨rfl, by rw [hU], by rw [hU]; exact hPc, va_K.moved hW.alike X.2.2.2.1, hDc.weaken (fun _ _ _ _ => trivial), fun x hx => by cases hx⟩⟩ rfl hn hsize hst (lv_room hroom) d hR
    intro T hT X0
    obtain ⟨v, st₀, t, T', L, h0, X', hL, e1, e2, ⟨hv, qP, qK, qD, hz, hkp⟩, st⟩ := hrun T hT X0
    cases hv
    rw [h0] at hz hkp
    have hfr := fr_r hP hD (H1 := T'.heap) (fun q g1 g2 => by rw [e1]; exact hkp q g1 g2) hfree (by rw [e1]; exact qP) qD
    obtain ⟨t2, a1, b1⟩ := hk T'.heap (locs ++ L) hfr.1 hfr.2 ⟨Nat.le_trans hS.1 (by rw [e1]; exact hz), fun q g1 g2 => by rw [e1, hkp q (Nat.lt_of_lt_of_le g1 hS.1) (fun z => g2 (hfree q z))]; exact hS.2.1 q g1 g2, fun q hq => by
      rcases List.mem_append.mp hq with h | h
      · exact hS.2.2 q h
      · exact hfree _ (hL q h)⟩ T' rfl X'
    exact ⟨t2, st t2 a1, b1⟩
end LAW
theorem ws_in {w : Cond} (h : w ∈ WS) : w ∈ lw_tbl := (List.mem_filter.mp h).1
theorem gwL {cy : Cond} {own C : String} {idx : Nat} {y : MethodName} (h1 : Cond.methodLink own idx y ∈ WS) (h2 : Cond.instanceMethod y ∈ WS) (h3 : Cond.selects C y y ∈ WS) (h4 : Cond.initialized C ∈ WS) (h5 : cy ∈ WS) : GoodIn lw_tbl (wsV own idx C y (cy :: WS)) := fun w hw => by
  have hg := gwV (c0 := cy) h1 h2 h3 h4 h5 w hw
  refine ⟨?_, hg.2⟩
  rcases List.mem_cons.mp hg.1 with rfl | q
  · exact ws_in h5
  · exact ws_in q
def f_L (L : Nat) (xs : Nat → Int32) : Nat → Int32 → eS × eS → Option (Int32 × (eS × eS))
  | 0, _, _ => none
  | fl + 1, x3, q => (if nI L - (5 : Int32) < x3 then some ((1 : Int32), q) else ix x3 L ((if (xs (Int32.toNatClampNeg x3) &&& (31 : Int32)) = (0 : Int32) then ix (x3 + (1 : Int32)) L (ix (x3 + (2 : Int32)) L (bnd (f_W_poke (xs (Int32.toNatClampNeg (x3 + (1 : Int32)))) (xs (Int32.toNatClampNeg (x3 + (2 : Int32)))) q.1) fun r1 a1 => ix (x3 + (1 : Int32)) L (ix (x3 + (2 : Int32)) L (bnd (f_M_poke (xs (Int32.toNatClampNeg (x3 + (1 : Int32)))) (xs (Int32.toNatClampNeg (x3 + (2 : Int32)))) q.2) fun r2 b1 => (if r1 = r2 then nm (x3 + (5 : Int32)) fun v => f_L L xs fl v (a1, b1) else none))))) else (if (xs (Int32.toNatClampNeg x3) &&& (31 : Int32)) = (1 : Int32) then ix (x3 + (1 : Int32)) L (bnd (f_W_peek (xs (Int32.toNatClampNeg (x3 + (1 : Int32)))) q.1) fun r1 a1 => ix (x3 + (1 : Int32)) L (bnd (f_M_peek (xs (Int32.toNatClampNeg (x3 + (1 : Int32)))) q.2) fun r2 b1 => (if r1 = r2 then nm (x3 + (5 : Int32)) fun v => f_L L xs fl v (a1, b1) else none))) else (if (xs (Int32.toNatClampNeg x3) &&& (31 : Int32)) = (2 : Int32) then ix (x3 + (1 : Int32)) L (bnd (f_W_bare (xs (Int32.toNatClampNeg (x3 + (1 : Int32)))) q.1) fun r1 a1 => ix (x3 + (1 : Int32)) L (bnd (f_M_bare (xs (Int32.toNatClampNeg (x3 + (1 : Int32)))) q.2) fun r2 b1 => (if r1 = r2 then nm (x3 + (5 : Int32)) fun v => f_L L xs fl v (a1, b1) else none))) else (if (xs (Int32.toNatClampNeg x3) &&& (31 : Int32)) = (3 : Int32) then ix (x3 + (1 : Int32)) L (ix (x3 + (2 : Int32)) L (bnd (f_W_give (xs (Int32.toNatClampNeg (x3 + (1 : Int32)))) (xs (Int32.toNatClampNeg (x3 + (2 : Int32)))) q.1) fun r1 a1 => ix (x3 + (1 : Int32)) L (ix (x3 + (2 : Int32)) L (bnd (f_M_give (xs (Int32.toNatClampNeg (x3 + (1 : Int32)))) (xs (Int32.toNatClampNeg (x3 + (2 : Int32)))) q.2) fun r2 b1 => (if r1 = r2 then nm (x3 + (5 : Int32)) fun v => f_L L xs fl v (a1, b1) else none))))) else (if (xs (Int32.toNatClampNeg x3) &&& (31 : Int32)) = (4 : Int32) then ix (x3 + (1 : Int32)) L (bnd (f_W_register (xs (Int32.toNatClampNeg (x3 + (1 : Int32)))) q.1) fun r1 a1 => ix (x3 + (1 : Int32)) L (bnd (f_M_register (xs (Int32.toNatClampNeg (x3 + (1 : Int32)))) q.2) fun r2 b1 => (if r1 = r2 then nm (x3 + (5 : Int32)) fun v => f_L L xs fl v (a1, b1) else none))) else (if (xs (Int32.toNatClampNeg x3) &&& (31 : Int32)) = (5 : Int32) then bnd (f_W_pc  q.1) fun r1 a1 => bnd (f_M_pc  q.2) fun r2 b1 => (if r1 = r2 then nm (x3 + (5 : Int32)) fun v => f_L L xs fl v (a1, b1) else none) else (if (xs (Int32.toNatClampNeg x3) &&& (31 : Int32)) = (6 : Int32) then ix (x3 + (1 : Int32)) L (bnd (f_W_boot (xs (Int32.toNatClampNeg (x3 + (1 : Int32)))) q.1) fun r1 a1 => ix (x3 + (1 : Int32)) L (bnd (f_M_boot (xs (Int32.toNatClampNeg (x3 + (1 : Int32)))) q.2) fun r2 b1 => (if r1 = r2 then nm (x3 + (5 : Int32)) fun v => f_L L xs fl v (a1, b1) else none))) else (if (xs (Int32.toNatClampNeg x3) &&& (31 : Int32)) = (7 : Int32) then bnd (f_W_halted  q.1) fun r1 a1 => bnd (f_M_halted  q.2) fun r2 b1 => (if r1 = r2 then nm (x3 + (5 : Int32)) fun v => f_L L xs fl v (a1, b1) else none) else (if (xs (Int32.toNatClampNeg x3) &&& (31 : Int32)) = (8 : Int32) then ix (x3 + (1 : Int32)) L (ix (x3 + (2 : Int32)) L (ix (x3 + (3 : Int32)) L (ix (x3 + (4 : Int32)) L (bnd (f_W_call (xs (Int32.toNatClampNeg (x3 + (1 : Int32)))) (xs (Int32.toNatClampNeg (x3 + (2 : Int32)))) (xs (Int32.toNatClampNeg (x3 + (3 : Int32)))) (xs (Int32.toNatClampNeg (x3 + (4 : Int32)))) q.1) fun r1 a1 => ix (x3 + (1 : Int32)) L (ix (x3 + (2 : Int32)) L (ix (x3 + (3 : Int32)) L (ix (x3 + (4 : Int32)) L (bnd (f_M_call (xs (Int32.toNatClampNeg (x3 + (1 : Int32)))) (xs (Int32.toNatClampNeg (x3 + (2 : Int32)))) (xs (Int32.toNatClampNeg (x3 + (3 : Int32)))) (xs (Int32.toNatClampNeg (x3 + (4 : Int32)))) q.2) fun r2 b1 => (if r1 = r2 then nm (x3 + (5 : Int32)) fun v => f_L L xs fl v (a1, b1) else none))))))))) else (if (xs (Int32.toNatClampNeg x3) &&& (31 : Int32)) = (9 : Int32) then ix (x3 + (1 : Int32)) L (bnd (f_W_run (xs (Int32.toNatClampNeg (x3 + (1 : Int32)))) q.1) fun r1 a1 => ix (x3 + (1 : Int32)) L (bnd (f_M_run (xs (Int32.toNatClampNeg (x3 + (1 : Int32)))) q.2) fun r2 b1 => (if r1 = r2 then nm (x3 + (5 : Int32)) fun v => f_L L xs fl v (a1, b1) else none))) else (if (xs (Int32.toNatClampNeg x3) &&& (31 : Int32)) = (10 : Int32) then ix (x3 + (1 : Int32)) L (bnd (f_W_period (xs (Int32.toNatClampNeg (x3 + (1 : Int32)))) q.1) fun _ a1 => ix (x3 + (1 : Int32)) L (bnd (f_M_period (xs (Int32.toNatClampNeg (x3 + (1 : Int32)))) q.2) fun _ b1 => nm (x3 + (5 : Int32)) fun v => f_L L xs fl v (a1, b1))) else (if (xs (Int32.toNatClampNeg x3) &&& (31 : Int32)) = (11 : Int32) then bnd (f_W_tick  q.1) fun r1 a1 => bnd (f_M_tick  q.2) fun r2 b1 => (if r1 = r2 then nm (x3 + (5 : Int32)) fun v => f_L L xs fl v (a1, b1) else none) else (if (xs (Int32.toNatClampNeg x3) &&& (31 : Int32)) = (12 : Int32) then bnd (f_W_running  q.1) fun r1 a1 => bnd (f_M_running  q.2) fun r2 b1 => (if r1 = r2 then nm (x3 + (5 : Int32)) fun v => f_L L xs fl v (a1, b1) else none) else (if (xs (Int32.toNatClampNeg x3) &&& (31 : Int32)) = (13 : Int32) then ix (x3 + (1 : Int32)) L (bnd (f_W_region (xs (Int32.toNatClampNeg (x3 + (1 : Int32)))) q.1) fun r1 a1 => ix (x3 + (1 : Int32)) L (bnd (f_M_region (xs (Int32.toNatClampNeg (x3 + (1 : Int32)))) q.2) fun r2 b1 => (if r1 = r2 then nm (x3 + (5 : Int32)) fun v => f_L L xs fl v (a1, b1) else none))) else (if (xs (Int32.toNatClampNeg x3) &&& (31 : Int32)) = (14 : Int32) then ix (x3 + (1 : Int32)) L (bnd (f_W_enclave (xs (Int32.toNatClampNeg (x3 + (1 : Int32)))) q.1) fun r1 a1 => ix (x3 + (1 : Int32)) L (bnd (f_M_enclave (xs (Int32.toNatClampNeg (x3 + (1 : Int32)))) q.2) fun r2 b1 => (if r1 = r2 then nm (x3 + (5 : Int32)) fun v => f_L L xs fl v (a1, b1) else none))) else (if (xs (Int32.toNatClampNeg x3) &&& (31 : Int32)) = (15 : Int32) then ix (x3 + (1 : Int32)) L (ix (x3 + (2 : Int32)) L (bnd (f_W_thread (xs (Int32.toNatClampNeg (x3 + (1 : Int32)))) (xs (Int32.toNatClampNeg (x3 + (2 : Int32)))) q.1) fun r1 a1 => ix (x3 + (1 : Int32)) L (ix (x3 + (2 : Int32)) L (bnd (f_M_thread (xs (Int32.toNatClampNeg (x3 + (1 : Int32)))) (xs (Int32.toNatClampNeg (x3 + (2 : Int32)))) q.2) fun r2 b1 => (if r1 = r2 then nm (x3 + (5 : Int32)) fun v => f_L L xs fl v (a1, b1) else none))))) else (if (xs (Int32.toNatClampNeg x3) &&& (31 : Int32)) = (16 : Int32) then ix (x3 + (1 : Int32)) L (ix (x3 + (2 : Int32)) L (ix (x3 + (3 : Int32)) L (bnd (f_W_kept (xs (Int32.toNatClampNeg (x3 + (1 : Int32)))) (xs (Int32.toNatClampNeg (x3 + (2 : Int32)))) (xs (Int32.toNatClampNeg (x3 + (3 : Int32)))) q.1) fun r1 a1 => ix (x3 + (1 : Int32)) L (ix (x3 + (2 : Int32)) L (ix (x3 + (3 : Int32)) L (bnd (f_M_kept (xs (Int32.toNatClampNeg (x3 + (1 : Int32)))) (xs (Int32.toNatClampNeg (x3 + (2 : Int32)))) (xs (Int32.toNatClampNeg (x3 + (3 : Int32)))) q.2) fun r2 b1 => (if r1 = r2 then nm (x3 + (5 : Int32)) fun v => f_L L xs fl v (a1, b1) else none))))))) else (if (xs (Int32.toNatClampNeg x3) &&& (31 : Int32)) = (17 : Int32) then ix (x3 + (1 : Int32)) L (bnd (f_W_measure (xs (Int32.toNatClampNeg (x3 + (1 : Int32)))) q.1) fun r1 a1 => ix (x3 + (1 : Int32)) L (bnd (f_M_measure (xs (Int32.toNatClampNeg (x3 + (1 : Int32)))) q.2) fun r2 b1 => (if r1 = r2 then nm (x3 + (5 : Int32)) fun v => f_L L xs fl v (a1, b1) else none))) else (if (xs (Int32.toNatClampNeg x3) &&& (31 : Int32)) = (18 : Int32) then ix (x3 + (1 : Int32)) L (ix (x3 + (2 : Int32)) L (ix (x3 + (3 : Int32)) L (bnd (f_W_vouch (xs (Int32.toNatClampNeg (x3 + (1 : Int32)))) (xs (Int32.toNatClampNeg (x3 + (2 : Int32)))) (xs (Int32.toNatClampNeg (x3 + (3 : Int32)))) q.1) fun r1 a1 => ix (x3 + (1 : Int32)) L (ix (x3 + (2 : Int32)) L (ix (x3 + (3 : Int32)) L (bnd (f_M_vouch (xs (Int32.toNatClampNeg (x3 + (1 : Int32)))) (xs (Int32.toNatClampNeg (x3 + (2 : Int32)))) (xs (Int32.toNatClampNeg (x3 + (3 : Int32)))) q.2) fun r2 b1 => (if r1 = r2 then nm (x3 + (5 : Int32)) fun v => f_L L xs fl v (a1, b1) else none))))))) else (if (xs (Int32.toNatClampNeg x3) &&& (31 : Int32)) = (19 : Int32) then ix (x3 + (1 : Int32)) L (bnd (f_W_exit (xs (Int32.toNatClampNeg (x3 + (1 : Int32)))) q.1) fun r1 a1 => ix (x3 + (1 : Int32)) L (bnd (f_M_exit (xs (Int32.toNatClampNeg (x3 + (1 : Int32)))) q.2) fun r2 b1 => (if r1 = r2 then nm (x3 + (5 : Int32)) fun v => f_L L xs fl v (a1, b1) else none))) else nm (x3 + (5 : Int32)) fun v => f_L L xs fl v q))))))))))))))))))))))
theorem gl_ret {p : Program} {l : Launch} {e : Env} {s0 : State} {m : MethodId} {below : List Frame} {meth : Method} {c : Code} {D : va_G} {dI : Nat → ClassId} {ad ad2 : Nat → Nat} {b : Nat} {pc : Nat} {ls : Array Slot} {q : eS × eS} (X : CX p s0 m #[Value.ref b] meth c D vwCl (tyE dI) nwE (fun z => s0.heap.size ≤ z) code 4 ret lw_tbl R_law) (d : decode code pc = .ok (.ireturn, 1)) : GG p l e room_1 s0 m #[Value.ref b] below meth c D vwCl (tyE dI) (fun z => s0.heap.size ≤ z) (wL dI ad ad2) 45 1277 (fun (_ : Int32) (_ : eS × eS) => lw_Z below #[Value.ref b] s0) (some ((1 : Int32), q)) (F0 m pc ls [.int 1]) q := fun r s' hr H locs h1 h2 h3 => va_forget (fun z hz => h3.2.2 z hz) (W.widen (by decide) (by decide) (lw_ret X.1.1 X.1.2.1 X.2.1 X.2.2.1 d))
set_option maxHeartbeats 40000000 in
set_option maxRecDepth 100000 in
theorem t_L {p : Program} {l : Launch} {e : Env} {s0 : State} {m : MethodId} {below : List Frame} {meth : Method} {c : Code} {D : va_G} {dI : Nat → ClassId} {ad ad2 : Nat → Nat} {b L : Nat} {xs : Nat → Int32} (X : CX p s0 m #[Value.ref b] meth c D vwCl (tyE dI) nwE (fun z => s0.heap.size ≤ z) code 4 ret lw_tbl R_law) (hX : va_X b L xs s0 s0.heap) (hbl : b < s0.heap.size) (hbA : ¬ s0.heap.size ≤ b) : ∀ (fl : Nat) (x3 : Int32) (q : eS × eS) (ls : Array Slot), lv_has ls 4 [(0, .ref b), (1, .ref (ad 0)), (2, .ref (ad2 0)), (3, .int x3)] → GG p l e room_1 s0 m #[Value.ref b] below meth c D vwCl (tyE dI) (fun z => s0.heap.size ≤ z) (wL dI ad ad2) 45 1277 (fun (_ : Int32) (_ : eS × eS) => lw_Z below #[Value.ref b] s0) (f_L L xs fl x3 q) (F0 m 28 ls []) q := by
  intro fl
  induction fl with
  | zero =>
    intro x3 q ls hl
    rw [f_L]
    exact gg_none
  | succ fl ih =>
    intro x3 q ls hl
    rw [f_L]
    refine gg_iload_n X 28 d_L_law_28 rfl (lv_at hl 3 rfl) ?_
    refine gg_aload_n X 29 d_L_law_29 rfl (lv_at hl 0 rfl) ?_
    refine gl_slen X 30 hX hbl hbA d_L_law_30 ?_
    refine gg_iconst X 31 (5 : Int32) d_L_law_31 (by decide) ?_
    refine gg_isub X 32 d_L_law_32 ?_
    refine gg_icmp_gt X 33 660 d_L_law_33 rfl (fun _ => ?_) (fun _ => ?_)
    · refine gg_iconst X 660 (1 : Int32) d_L_law_660 (by decide) ?_
      exact gl_ret X d_L_law_661
    · refine gg_aload_n X 36 d_L_law_36 rfl (lv_at hl 0 rfl) ?_
      refine gg_iload_n X 37 d_L_law_37 rfl (lv_at hl 3 rfl) ?_
      refine gl_sld X 38 hX hbl hbA d_L_law_38 ?_
      refine gg_bipush X 39 (31 : Int32) d_L_law_39 (by decide) ?_
      refine gg_iand X 41 d_L_law_41 ?_
      refine gg_eqc (fun h0 => ?_) (fun h0 => ?_)
      · refine gg_tin X 42 136 d_L_law_42 h0 (by decide) (by decide) rfl rfl ?_
        refine gg_aload_n X 136 d_L_law_136 rfl (lv_at hl 1 rfl) ?_
        refine gg_aload_n X 137 d_L_law_137 rfl (lv_at hl 0 rfl) ?_
        refine gg_iload_n X 138 d_L_law_138 rfl (lv_at hl 3 rfl) ?_
        refine gg_iconst X 139 (1 : Int32) d_L_law_139 (by decide) ?_
        refine gg_iadd X 140 d_L_law_140 ?_
        refine gl_sld X 141 hX hbl hbA d_L_law_141 ?_
        refine gg_aload_n X 142 d_L_law_142 rfl (lv_at hl 0 rfl) ?_
        refine gg_iload_n X 143 d_L_law_143 rfl (lv_at hl 3 rfl) ?_
        refine gg_iconst X 144 (2 : Int32) d_L_law_144 (by decide) ?_
        refine gg_iadd X 145 d_L_law_145 ?_
        refine gl_sld X 146 hX hbl hbA d_L_law_146 ?_
        refine gl_callE X 147 [.int (xs (Int32.toNatClampNeg (x3 + (1 : Int32)))), .int (xs (Int32.toNatClampNeg (x3 + (2 : Int32))))] [] (fun _ _ h sz => M_W_poke l D dI ad _ (xs (Int32.toNatClampNeg (x3 + (1 : Int32)))) (xs (Int32.toNatClampNeg (x3 + (2 : Int32)))) h sz) (cwV 2 X.1.2.2.2.2 (gwL w_111 w_112 w_113 w_1 w_114) rfl rfl rfl (by decide +kernel) ⟨by decide, by decide⟩) rfl hl.1 rfl (Nat.le_of_ble_eq_true rfl) (by decide) d_L_law_147 (fun r1 a1 => ?_)
        refine gg_show_i ?_
        refine gg_aload_n X 150 d_L_law_150 rfl (lv_at hl 2 rfl) ?_
        refine gg_aload_n X 151 d_L_law_151 rfl (lv_at hl 0 rfl) ?_
        refine gg_iload_n X 152 d_L_law_152 rfl (lv_at hl 3 rfl) ?_
        refine gg_iconst X 153 (1 : Int32) d_L_law_153 (by decide) ?_
        refine gg_iadd X 154 d_L_law_154 ?_
        refine gl_sld X 155 hX hbl hbA d_L_law_155 ?_
        refine gg_aload_n X 156 d_L_law_156 rfl (lv_at hl 0 rfl) ?_
        refine gg_iload_n X 157 d_L_law_157 rfl (lv_at hl 3 rfl) ?_
        refine gg_iconst X 158 (2 : Int32) d_L_law_158 (by decide) ?_
        refine gg_iadd X 159 d_L_law_159 ?_
        refine gl_sld X 160 hX hbl hbA d_L_law_160 ?_
        refine gl_callM X 161 [.int (xs (Int32.toNatClampNeg (x3 + (1 : Int32)))), .int (xs (Int32.toNatClampNeg (x3 + (2 : Int32))))] [.int r1] (fun _ _ h sz => M_M_poke l D dI ad2 _ (xs (Int32.toNatClampNeg (x3 + (1 : Int32)))) (xs (Int32.toNatClampNeg (x3 + (2 : Int32)))) h sz) (cwV 2 X.1.2.2.2.2 (gwL w_429 w_430 w_431 w_5 w_432) rfl rfl rfl (by decide +kernel) ⟨by decide, by decide⟩) rfl hl.1 rfl (Nat.le_of_ble_eq_true rfl) (by decide) d_L_law_161 (fun r2 b1 => ?_)
        refine gg_show_i ?_
        refine gg_icmp_eq X 164 654 d_L_law_164 rfl (fun _ => ?_) (fun _ => ?_)
        · refine gg_iinc X 654 (k := 3) (5 : Int32) (fun v => [(3, .int v), (0, .ref b), (1, .ref (ad 0)), (2, .ref (ad2 0))]) d_L_law_654 hl rfl (by decide) (by decide) (fun _ => rfl) (fun v ls hl => ?_)
          refine gg_goto X 657 28 d_L_law_657 rfl ?_
          exact ih v _ _ (lv_sub hl [1, 2, 3, 0] rfl)
        · exact gg_none
      refine gg_eqc (fun h1 => ?_) (fun h1 => ?_)
      · refine gg_tin X 42 169 d_L_law_42 h1 (by decide) (by decide) rfl rfl ?_
        refine gg_aload_n X 169 d_L_law_169 rfl (lv_at hl 1 rfl) ?_
        refine gg_aload_n X 170 d_L_law_170 rfl (lv_at hl 0 rfl) ?_
        refine gg_iload_n X 171 d_L_law_171 rfl (lv_at hl 3 rfl) ?_
        refine gg_iconst X 172 (1 : Int32) d_L_law_172 (by decide) ?_
        refine gg_iadd X 173 d_L_law_173 ?_
        refine gl_sld X 174 hX hbl hbA d_L_law_174 ?_
        refine gl_callE X 175 [.int (xs (Int32.toNatClampNeg (x3 + (1 : Int32))))] [] (fun _ _ h sz => M_W_peek l D dI ad _ (xs (Int32.toNatClampNeg (x3 + (1 : Int32)))) h sz) (cwV 1 X.1.2.2.2.2 (gwL w_122 w_123 w_124 w_1 w_125) rfl rfl rfl (by decide +kernel) ⟨by decide, by decide⟩) rfl hl.1 rfl (Nat.le_of_ble_eq_true rfl) (by decide) d_L_law_175 (fun r1 a1 => ?_)
        refine gg_show_i ?_
        refine gg_aload_n X 178 d_L_law_178 rfl (lv_at hl 2 rfl) ?_
        refine gg_aload_n X 179 d_L_law_179 rfl (lv_at hl 0 rfl) ?_
        refine gg_iload_n X 180 d_L_law_180 rfl (lv_at hl 3 rfl) ?_
        refine gg_iconst X 181 (1 : Int32) d_L_law_181 (by decide) ?_
        refine gg_iadd X 182 d_L_law_182 ?_
        refine gl_sld X 183 hX hbl hbA d_L_law_183 ?_
        refine gl_callM X 184 [.int (xs (Int32.toNatClampNeg (x3 + (1 : Int32))))] [.int r1] (fun _ _ h sz => M_M_peek l D dI ad2 _ (xs (Int32.toNatClampNeg (x3 + (1 : Int32)))) h sz) (cwV 1 X.1.2.2.2.2 (gwL w_444 w_445 w_446 w_5 w_447) rfl rfl rfl (by decide +kernel) ⟨by decide, by decide⟩) rfl hl.1 rfl (Nat.le_of_ble_eq_true rfl) (by decide) d_L_law_184 (fun r2 b1 => ?_)
        refine gg_show_i ?_
        refine gg_icmp_eq X 187 654 d_L_law_187 rfl (fun _ => ?_) (fun _ => ?_)
        · refine gg_iinc X 654 (k := 3) (5 : Int32) (fun v => [(3, .int v), (0, .ref b), (1, .ref (ad 0)), (2, .ref (ad2 0))]) d_L_law_654 hl rfl (by decide) (by decide) (fun _ => rfl) (fun v ls hl => ?_)
          refine gg_goto X 657 28 d_L_law_657 rfl ?_
          exact ih v _ _ (lv_sub hl [1, 2, 3, 0] rfl)
        · exact gg_none
      refine gg_eqc (fun h2 => ?_) (fun h2 => ?_)
      · refine gg_tin X 42 192 d_L_law_42 h2 (by decide) (by decide) rfl rfl ?_
        refine gg_aload_n X 192 d_L_law_192 rfl (lv_at hl 1 rfl) ?_
        refine gg_aload_n X 193 d_L_law_193 rfl (lv_at hl 0 rfl) ?_
        refine gg_iload_n X 194 d_L_law_194 rfl (lv_at hl 3 rfl) ?_
        refine gg_iconst X 195 (1 : Int32) d_L_law_195 (by decide) ?_
        refine gg_iadd X 196 d_L_law_196 ?_
        refine gl_sld X 197 hX hbl hbA d_L_law_197 ?_
        refine gl_callE X 198 [.int (xs (Int32.toNatClampNeg (x3 + (1 : Int32))))] [] (fun _ _ h sz => M_W_bare l D dI ad _ (xs (Int32.toNatClampNeg (x3 + (1 : Int32)))) h sz) (cwV 1 X.1.2.2.2.2 (gwL w_126 w_127 w_128 w_1 w_129) rfl rfl rfl (by decide +kernel) ⟨by decide, by decide⟩) rfl hl.1 rfl (Nat.le_of_ble_eq_true rfl) (by decide) d_L_law_198 (fun r1 a1 => ?_)
        refine gg_show_i ?_
        refine gg_aload_n X 201 d_L_law_201 rfl (lv_at hl 2 rfl) ?_
        refine gg_aload_n X 202 d_L_law_202 rfl (lv_at hl 0 rfl) ?_
        refine gg_iload_n X 203 d_L_law_203 rfl (lv_at hl 3 rfl) ?_
        refine gg_iconst X 204 (1 : Int32) d_L_law_204 (by decide) ?_
        refine gg_iadd X 205 d_L_law_205 ?_
        refine gl_sld X 206 hX hbl hbA d_L_law_206 ?_
        refine gl_callM X 207 [.int (xs (Int32.toNatClampNeg (x3 + (1 : Int32))))] [.int r1] (fun _ _ h sz => M_M_bare l D dI ad2 _ (xs (Int32.toNatClampNeg (x3 + (1 : Int32)))) h sz) (cwV 1 X.1.2.2.2.2 (gwL w_448 w_449 w_450 w_5 w_451) rfl rfl rfl (by decide +kernel) ⟨by decide, by decide⟩) rfl hl.1 rfl (Nat.le_of_ble_eq_true rfl) (by decide) d_L_law_207 (fun r2 b1 => ?_)
        refine gg_show_i ?_
        refine gg_icmp_eq X 210 654 d_L_law_210 rfl (fun _ => ?_) (fun _ => ?_)
        · refine gg_iinc X 654 (k := 3) (5 : Int32) (fun v => [(3, .int v), (0, .ref b), (1, .ref (ad 0)), (2, .ref (ad2 0))]) d_L_law_654 hl rfl (by decide) (by decide) (fun _ => rfl) (fun v ls hl => ?_)
          refine gg_goto X 657 28 d_L_law_657 rfl ?_
          exact ih v _ _ (lv_sub hl [1, 2, 3, 0] rfl)
        · exact gg_none
      refine gg_eqc (fun h3 => ?_) (fun h3 => ?_)
      · refine gg_tin X 42 215 d_L_law_42 h3 (by decide) (by decide) rfl rfl ?_
        refine gg_aload_n X 215 d_L_law_215 rfl (lv_at hl 1 rfl) ?_
        refine gg_aload_n X 216 d_L_law_216 rfl (lv_at hl 0 rfl) ?_
        refine gg_iload_n X 217 d_L_law_217 rfl (lv_at hl 3 rfl) ?_
        refine gg_iconst X 218 (1 : Int32) d_L_law_218 (by decide) ?_
        refine gg_iadd X 219 d_L_law_219 ?_
        refine gl_sld X 220 hX hbl hbA d_L_law_220 ?_
        refine gg_aload_n X 221 d_L_law_221 rfl (lv_at hl 0 rfl) ?_
        refine gg_iload_n X 222 d_L_law_222 rfl (lv_at hl 3 rfl) ?_
        refine gg_iconst X 223 (2 : Int32) d_L_law_223 (by decide) ?_
        refine gg_iadd X 224 d_L_law_224 ?_
        refine gl_sld X 225 hX hbl hbA d_L_law_225 ?_
        refine gl_callE X 226 [.int (xs (Int32.toNatClampNeg (x3 + (1 : Int32)))), .int (xs (Int32.toNatClampNeg (x3 + (2 : Int32))))] [] (fun _ _ h sz => M_W_give l D dI ad _ (xs (Int32.toNatClampNeg (x3 + (1 : Int32)))) (xs (Int32.toNatClampNeg (x3 + (2 : Int32)))) h sz) (cwV 2 X.1.2.2.2.2 (gwL w_130 w_131 w_132 w_1 w_133) rfl rfl rfl (by decide +kernel) ⟨by decide, by decide⟩) rfl hl.1 rfl (Nat.le_of_ble_eq_true rfl) (by decide) d_L_law_226 (fun r1 a1 => ?_)
        refine gg_show_i ?_
        refine gg_aload_n X 229 d_L_law_229 rfl (lv_at hl 2 rfl) ?_
        refine gg_aload_n X 230 d_L_law_230 rfl (lv_at hl 0 rfl) ?_
        refine gg_iload_n X 231 d_L_law_231 rfl (lv_at hl 3 rfl) ?_
        refine gg_iconst X 232 (1 : Int32) d_L_law_232 (by decide) ?_
        refine gg_iadd X 233 d_L_law_233 ?_
        refine gl_sld X 234 hX hbl hbA d_L_law_234 ?_
        refine gg_aload_n X 235 d_L_law_235 rfl (lv_at hl 0 rfl) ?_
        refine gg_iload_n X 236 d_L_law_236 rfl (lv_at hl 3 rfl) ?_
        refine gg_iconst X 237 (2 : Int32) d_L_law_237 (by decide) ?_
        refine gg_iadd X 238 d_L_law_238 ?_
        refine gl_sld X 239 hX hbl hbA d_L_law_239 ?_
        refine gl_callM X 240 [.int (xs (Int32.toNatClampNeg (x3 + (1 : Int32)))), .int (xs (Int32.toNatClampNeg (x3 + (2 : Int32))))] [.int r1] (fun _ _ h sz => M_M_give l D dI ad2 _ (xs (Int32.toNatClampNeg (x3 + (1 : Int32)))) (xs (Int32.toNatClampNeg (x3 + (2 : Int32)))) h sz) (cwV 2 X.1.2.2.2.2 (gwL w_452 w_453 w_454 w_5 w_455) rfl rfl rfl (by decide +kernel) ⟨by decide, by decide⟩) rfl hl.1 rfl (Nat.le_of_ble_eq_true rfl) (by decide) d_L_law_240 (fun r2 b1 => ?_)
        refine gg_show_i ?_
        refine gg_icmp_eq X 243 654 d_L_law_243 rfl (fun _ => ?_) (fun _ => ?_)
        · refine gg_iinc X 654 (k := 3) (5 : Int32) (fun v => [(3, .int v), (0, .ref b), (1, .ref (ad 0)), (2, .ref (ad2 0))]) d_L_law_654 hl rfl (by decide) (by decide) (fun _ => rfl) (fun v ls hl => ?_)
          refine gg_goto X 657 28 d_L_law_657 rfl ?_
          exact ih v _ _ (lv_sub hl [1, 2, 3, 0] rfl)
        · exact gg_none
      refine gg_eqc (fun h4 => ?_) (fun h4 => ?_)
      · refine gg_tin X 42 248 d_L_law_42 h4 (by decide) (by decide) rfl rfl ?_
        refine gg_aload_n X 248 d_L_law_248 rfl (lv_at hl 1 rfl) ?_
        refine gg_aload_n X 249 d_L_law_249 rfl (lv_at hl 0 rfl) ?_
        refine gg_iload_n X 250 d_L_law_250 rfl (lv_at hl 3 rfl) ?_
        refine gg_iconst X 251 (1 : Int32) d_L_law_251 (by decide) ?_
        refine gg_iadd X 252 d_L_law_252 ?_
        refine gl_sld X 253 hX hbl hbA d_L_law_253 ?_
        refine gl_callE X 254 [.int (xs (Int32.toNatClampNeg (x3 + (1 : Int32))))] [] (fun _ _ h sz => M_W_register l D dI ad _ (xs (Int32.toNatClampNeg (x3 + (1 : Int32)))) h sz) (cwV 1 X.1.2.2.2.2 (gwL w_138 w_139 w_140 w_1 w_141) rfl rfl rfl (by decide +kernel) ⟨by decide, by decide⟩) rfl hl.1 rfl (Nat.le_of_ble_eq_true rfl) (by decide) d_L_law_254 (fun r1 a1 => ?_)
        refine gg_show_i ?_
        refine gg_aload_n X 257 d_L_law_257 rfl (lv_at hl 2 rfl) ?_
        refine gg_aload_n X 258 d_L_law_258 rfl (lv_at hl 0 rfl) ?_
        refine gg_iload_n X 259 d_L_law_259 rfl (lv_at hl 3 rfl) ?_
        refine gg_iconst X 260 (1 : Int32) d_L_law_260 (by decide) ?_
        refine gg_iadd X 261 d_L_law_261 ?_
        refine gl_sld X 262 hX hbl hbA d_L_law_262 ?_
        refine gl_callM X 263 [.int (xs (Int32.toNatClampNeg (x3 + (1 : Int32))))] [.int r1] (fun _ _ h sz => M_M_register l D dI ad2 _ (xs (Int32.toNatClampNeg (x3 + (1 : Int32)))) h sz) (cwV 1 X.1.2.2.2.2 (gwL w_456 w_457 w_458 w_5 w_459) rfl rfl rfl (by decide +kernel) ⟨by decide, by decide⟩) rfl hl.1 rfl (Nat.le_of_ble_eq_true rfl) (by decide) d_L_law_263 (fun r2 b1 => ?_)
        refine gg_show_i ?_
        refine gg_icmp_eq X 266 654 d_L_law_266 rfl (fun _ => ?_) (fun _ => ?_)
        · refine gg_iinc X 654 (k := 3) (5 : Int32) (fun v => [(3, .int v), (0, .ref b), (1, .ref (ad 0)), (2, .ref (ad2 0))]) d_L_law_654 hl rfl (by decide) (by decide) (fun _ => rfl) (fun v ls hl => ?_)
          refine gg_goto X 657 28 d_L_law_657 rfl ?_
          exact ih v _ _ (lv_sub hl [1, 2, 3, 0] rfl)
        · exact gg_none
      refine gg_eqc (fun h5 => ?_) (fun h5 => ?_)
      · refine gg_tin X 42 271 d_L_law_42 h5 (by decide) (by decide) rfl rfl ?_
        refine gg_aload_n X 271 d_L_law_271 rfl (lv_at hl 1 rfl) ?_
        refine gl_callE X 272 [] [] (fun _ _ h sz => M_W_pc l D dI ad _  h sz) (cwV 0 X.1.2.2.2.2 (gwL w_146 w_147 w_148 w_1 w_149) rfl rfl rfl (by decide +kernel) ⟨by decide, by decide⟩) rfl hl.1 rfl (Nat.le_of_ble_eq_true rfl) (by decide) d_L_law_272 (fun r1 a1 => ?_)
        refine gg_show_i ?_
        refine gg_aload_n X 275 d_L_law_275 rfl (lv_at hl 2 rfl) ?_
        refine gl_callM X 276 [] [.int r1] (fun _ _ h sz => M_M_pc l D dI ad2 _  h sz) (cwV 0 X.1.2.2.2.2 (gwL w_460 w_461 w_462 w_5 w_463) rfl rfl rfl (by decide +kernel) ⟨by decide, by decide⟩) rfl hl.1 rfl (Nat.le_of_ble_eq_true rfl) (by decide) d_L_law_276 (fun r2 b1 => ?_)
        refine gg_show_i ?_
        refine gg_icmp_eq X 279 654 d_L_law_279 rfl (fun _ => ?_) (fun _ => ?_)
        · refine gg_iinc X 654 (k := 3) (5 : Int32) (fun v => [(3, .int v), (0, .ref b), (1, .ref (ad 0)), (2, .ref (ad2 0))]) d_L_law_654 hl rfl (by decide) (by decide) (fun _ => rfl) (fun v ls hl => ?_)
          refine gg_goto X 657 28 d_L_law_657 rfl ?_
          exact ih v _ _ (lv_sub hl [1, 2, 3, 0] rfl)
        · exact gg_none
      refine gg_eqc (fun h6 => ?_) (fun h6 => ?_)
      · refine gg_tin X 42 284 d_L_law_42 h6 (by decide) (by decide) rfl rfl ?_
        refine gg_aload_n X 284 d_L_law_284 rfl (lv_at hl 1 rfl) ?_
        refine gg_aload_n X 285 d_L_law_285 rfl (lv_at hl 0 rfl) ?_
        refine gg_iload_n X 286 d_L_law_286 rfl (lv_at hl 3 rfl) ?_
        refine gg_iconst X 287 (1 : Int32) d_L_law_287 (by decide) ?_
        refine gg_iadd X 288 d_L_law_288 ?_
        refine gl_sld X 289 hX hbl hbA d_L_law_289 ?_
        refine gl_callE X 290 [.int (xs (Int32.toNatClampNeg (x3 + (1 : Int32))))] [] (fun _ _ h sz => M_W_boot l D dI ad _ (xs (Int32.toNatClampNeg (x3 + (1 : Int32)))) h sz) (cwV 1 X.1.2.2.2.2 (gwL w_150 w_151 w_152 w_1 w_153) rfl rfl rfl (by decide +kernel) ⟨by decide, by decide⟩) rfl hl.1 rfl (Nat.le_of_ble_eq_true rfl) (by decide) d_L_law_290 (fun r1 a1 => ?_)
        refine gg_show_i ?_
        refine gg_aload_n X 293 d_L_law_293 rfl (lv_at hl 2 rfl) ?_
        refine gg_aload_n X 294 d_L_law_294 rfl (lv_at hl 0 rfl) ?_
        refine gg_iload_n X 295 d_L_law_295 rfl (lv_at hl 3 rfl) ?_
        refine gg_iconst X 296 (1 : Int32) d_L_law_296 (by decide) ?_
        refine gg_iadd X 297 d_L_law_297 ?_
        refine gl_sld X 298 hX hbl hbA d_L_law_298 ?_
        refine gl_callM X 299 [.int (xs (Int32.toNatClampNeg (x3 + (1 : Int32))))] [.int r1] (fun _ _ h sz => M_M_boot l D dI ad2 _ (xs (Int32.toNatClampNeg (x3 + (1 : Int32)))) h sz) (cwV 1 X.1.2.2.2.2 (gwL w_464 w_465 w_466 w_5 w_467) rfl rfl rfl (by decide +kernel) ⟨by decide, by decide⟩) rfl hl.1 rfl (Nat.le_of_ble_eq_true rfl) (by decide) d_L_law_299 (fun r2 b1 => ?_)
        refine gg_show_i ?_
        refine gg_icmp_eq X 302 654 d_L_law_302 rfl (fun _ => ?_) (fun _ => ?_)
        · refine gg_iinc X 654 (k := 3) (5 : Int32) (fun v => [(3, .int v), (0, .ref b), (1, .ref (ad 0)), (2, .ref (ad2 0))]) d_L_law_654 hl rfl (by decide) (by decide) (fun _ => rfl) (fun v ls hl => ?_)
          refine gg_goto X 657 28 d_L_law_657 rfl ?_
          exact ih v _ _ (lv_sub hl [1, 2, 3, 0] rfl)
        · exact gg_none
      refine gg_eqc (fun h7 => ?_) (fun h7 => ?_)
      · refine gg_tin X 42 307 d_L_law_42 h7 (by decide) (by decide) rfl rfl ?_
        refine gg_aload_n X 307 d_L_law_307 rfl (lv_at hl 1 rfl) ?_
        refine gl_callE X 308 [] [] (fun _ _ h sz => M_W_halted l D dI ad _  h sz) (cwV 0 X.1.2.2.2.2 (gwL w_154 w_155 w_156 w_1 w_157) rfl rfl rfl (by decide +kernel) ⟨by decide, by decide⟩) rfl hl.1 rfl (Nat.le_of_ble_eq_true rfl) (by decide) d_L_law_308 (fun r1 a1 => ?_)
        refine gg_show_i ?_
        refine gg_aload_n X 311 d_L_law_311 rfl (lv_at hl 2 rfl) ?_
        refine gl_callM X 312 [] [.int r1] (fun _ _ h sz => M_M_halted l D dI ad2 _  h sz) (cwV 0 X.1.2.2.2.2 (gwL w_468 w_469 w_470 w_5 w_471) rfl rfl rfl (by decide +kernel) ⟨by decide, by decide⟩) rfl hl.1 rfl (Nat.le_of_ble_eq_true rfl) (by decide) d_L_law_312 (fun r2 b1 => ?_)
        refine gg_show_i ?_
        refine gg_icmp_eq X 315 654 d_L_law_315 rfl (fun _ => ?_) (fun _ => ?_)
        · refine gg_iinc X 654 (k := 3) (5 : Int32) (fun v => [(3, .int v), (0, .ref b), (1, .ref (ad 0)), (2, .ref (ad2 0))]) d_L_law_654 hl rfl (by decide) (by decide) (fun _ => rfl) (fun v ls hl => ?_)
          refine gg_goto X 657 28 d_L_law_657 rfl ?_
          exact ih v _ _ (lv_sub hl [1, 2, 3, 0] rfl)
        · exact gg_none
      refine gg_eqc (fun h8 => ?_) (fun h8 => ?_)
      · refine gg_tin X 42 320 d_L_law_42 h8 (by decide) (by decide) rfl rfl ?_
        refine gg_aload_n X 320 d_L_law_320 rfl (lv_at hl 1 rfl) ?_
        refine gg_aload_n X 321 d_L_law_321 rfl (lv_at hl 0 rfl) ?_
        refine gg_iload_n X 322 d_L_law_322 rfl (lv_at hl 3 rfl) ?_
        refine gg_iconst X 323 (1 : Int32) d_L_law_323 (by decide) ?_
        refine gg_iadd X 324 d_L_law_324 ?_
        refine gl_sld X 325 hX hbl hbA d_L_law_325 ?_
        refine gg_aload_n X 326 d_L_law_326 rfl (lv_at hl 0 rfl) ?_
        refine gg_iload_n X 327 d_L_law_327 rfl (lv_at hl 3 rfl) ?_
        refine gg_iconst X 328 (2 : Int32) d_L_law_328 (by decide) ?_
        refine gg_iadd X 329 d_L_law_329 ?_
        refine gl_sld X 330 hX hbl hbA d_L_law_330 ?_
        refine gg_aload_n X 331 d_L_law_331 rfl (lv_at hl 0 rfl) ?_
        refine gg_iload_n X 332 d_L_law_332 rfl (lv_at hl 3 rfl) ?_
        refine gg_iconst X 333 (3 : Int32) d_L_law_333 (by decide) ?_
        refine gg_iadd X 334 d_L_law_334 ?_
        refine gl_sld X 335 hX hbl hbA d_L_law_335 ?_
        refine gg_aload_n X 336 d_L_law_336 rfl (lv_at hl 0 rfl) ?_
        refine gg_iload_n X 337 d_L_law_337 rfl (lv_at hl 3 rfl) ?_
        refine gg_iconst X 338 (4 : Int32) d_L_law_338 (by decide) ?_
        refine gg_iadd X 339 d_L_law_339 ?_
        refine gl_sld X 340 hX hbl hbA d_L_law_340 ?_
        refine gl_callE X 341 [.int (xs (Int32.toNatClampNeg (x3 + (1 : Int32)))), .int (xs (Int32.toNatClampNeg (x3 + (2 : Int32)))), .int (xs (Int32.toNatClampNeg (x3 + (3 : Int32)))), .int (xs (Int32.toNatClampNeg (x3 + (4 : Int32))))] [] (fun _ _ h sz => M_W_call l D dI ad _ (xs (Int32.toNatClampNeg (x3 + (1 : Int32)))) (xs (Int32.toNatClampNeg (x3 + (2 : Int32)))) (xs (Int32.toNatClampNeg (x3 + (3 : Int32)))) (xs (Int32.toNatClampNeg (x3 + (4 : Int32)))) h sz) (cwV 4 X.1.2.2.2.2 (gwL w_158 w_159 w_160 w_1 w_161) rfl rfl rfl (by decide +kernel) ⟨by decide, by decide⟩) rfl hl.1 rfl (Nat.le_of_ble_eq_true rfl) (by decide) d_L_law_341 (fun r1 a1 => ?_)
        refine gg_show_i ?_
        refine gg_aload_n X 344 d_L_law_344 rfl (lv_at hl 2 rfl) ?_
        refine gg_aload_n X 345 d_L_law_345 rfl (lv_at hl 0 rfl) ?_
        refine gg_iload_n X 346 d_L_law_346 rfl (lv_at hl 3 rfl) ?_
        refine gg_iconst X 347 (1 : Int32) d_L_law_347 (by decide) ?_
        refine gg_iadd X 348 d_L_law_348 ?_
        refine gl_sld X 349 hX hbl hbA d_L_law_349 ?_
        refine gg_aload_n X 350 d_L_law_350 rfl (lv_at hl 0 rfl) ?_
        refine gg_iload_n X 351 d_L_law_351 rfl (lv_at hl 3 rfl) ?_
        refine gg_iconst X 352 (2 : Int32) d_L_law_352 (by decide) ?_
        refine gg_iadd X 353 d_L_law_353 ?_
        refine gl_sld X 354 hX hbl hbA d_L_law_354 ?_
        refine gg_aload_n X 355 d_L_law_355 rfl (lv_at hl 0 rfl) ?_
        refine gg_iload_n X 356 d_L_law_356 rfl (lv_at hl 3 rfl) ?_
        refine gg_iconst X 357 (3 : Int32) d_L_law_357 (by decide) ?_
        refine gg_iadd X 358 d_L_law_358 ?_
        refine gl_sld X 359 hX hbl hbA d_L_law_359 ?_
        refine gg_aload_n X 360 d_L_law_360 rfl (lv_at hl 0 rfl) ?_
        refine gg_iload_n X 361 d_L_law_361 rfl (lv_at hl 3 rfl) ?_
        refine gg_iconst X 362 (4 : Int32) d_L_law_362 (by decide) ?_
        refine gg_iadd X 363 d_L_law_363 ?_
        refine gl_sld X 364 hX hbl hbA d_L_law_364 ?_
        refine gl_callM X 365 [.int (xs (Int32.toNatClampNeg (x3 + (1 : Int32)))), .int (xs (Int32.toNatClampNeg (x3 + (2 : Int32)))), .int (xs (Int32.toNatClampNeg (x3 + (3 : Int32)))), .int (xs (Int32.toNatClampNeg (x3 + (4 : Int32))))] [.int r1] (fun _ _ h sz => M_M_call l D dI ad2 _ (xs (Int32.toNatClampNeg (x3 + (1 : Int32)))) (xs (Int32.toNatClampNeg (x3 + (2 : Int32)))) (xs (Int32.toNatClampNeg (x3 + (3 : Int32)))) (xs (Int32.toNatClampNeg (x3 + (4 : Int32)))) h sz) (cwV 4 X.1.2.2.2.2 (gwL w_472 w_473 w_474 w_5 w_475) rfl rfl rfl (by decide +kernel) ⟨by decide, by decide⟩) rfl hl.1 rfl (Nat.le_of_ble_eq_true rfl) (by decide) d_L_law_365 (fun r2 b1 => ?_)
        refine gg_show_i ?_
        refine gg_icmp_eq X 368 654 d_L_law_368 rfl (fun _ => ?_) (fun _ => ?_)
        · refine gg_iinc X 654 (k := 3) (5 : Int32) (fun v => [(3, .int v), (0, .ref b), (1, .ref (ad 0)), (2, .ref (ad2 0))]) d_L_law_654 hl rfl (by decide) (by decide) (fun _ => rfl) (fun v ls hl => ?_)
          refine gg_goto X 657 28 d_L_law_657 rfl ?_
          exact ih v _ _ (lv_sub hl [1, 2, 3, 0] rfl)
        · exact gg_none
      refine gg_eqc (fun h9 => ?_) (fun h9 => ?_)
      · refine gg_tin X 42 373 d_L_law_42 h9 (by decide) (by decide) rfl rfl ?_
        refine gg_aload_n X 373 d_L_law_373 rfl (lv_at hl 1 rfl) ?_
        refine gg_aload_n X 374 d_L_law_374 rfl (lv_at hl 0 rfl) ?_
        refine gg_iload_n X 375 d_L_law_375 rfl (lv_at hl 3 rfl) ?_
        refine gg_iconst X 376 (1 : Int32) d_L_law_376 (by decide) ?_
        refine gg_iadd X 377 d_L_law_377 ?_
        refine gl_sld X 378 hX hbl hbA d_L_law_378 ?_
        refine gl_callE X 379 [.int (xs (Int32.toNatClampNeg (x3 + (1 : Int32))))] [] (fun _ _ h sz => M_W_run l D dI ad _ (xs (Int32.toNatClampNeg (x3 + (1 : Int32)))) h sz) (cwV 1 X.1.2.2.2.2 (gwL w_261 w_262 w_263 w_1 w_264) rfl rfl rfl (by decide +kernel) ⟨by decide, by decide⟩) rfl hl.1 rfl (Nat.le_of_ble_eq_true rfl) (by decide) d_L_law_379 (fun r1 a1 => ?_)
        refine gg_show_i ?_
        refine gg_aload_n X 382 d_L_law_382 rfl (lv_at hl 2 rfl) ?_
        refine gg_aload_n X 383 d_L_law_383 rfl (lv_at hl 0 rfl) ?_
        refine gg_iload_n X 384 d_L_law_384 rfl (lv_at hl 3 rfl) ?_
        refine gg_iconst X 385 (1 : Int32) d_L_law_385 (by decide) ?_
        refine gg_iadd X 386 d_L_law_386 ?_
        refine gl_sld X 387 hX hbl hbA d_L_law_387 ?_
        refine gl_callM X 388 [.int (xs (Int32.toNatClampNeg (x3 + (1 : Int32))))] [.int r1] (fun _ _ h sz => M_M_run l D dI ad2 _ (xs (Int32.toNatClampNeg (x3 + (1 : Int32)))) h sz) (cwV 1 X.1.2.2.2.2 (gwL w_527 w_528 w_529 w_5 w_530) rfl rfl rfl (by decide +kernel) ⟨by decide, by decide⟩) rfl hl.1 rfl (Nat.le_of_ble_eq_true rfl) (by decide) d_L_law_388 (fun r2 b1 => ?_)
        refine gg_show_i ?_
        refine gg_icmp_eq X 391 654 d_L_law_391 rfl (fun _ => ?_) (fun _ => ?_)
        · refine gg_iinc X 654 (k := 3) (5 : Int32) (fun v => [(3, .int v), (0, .ref b), (1, .ref (ad 0)), (2, .ref (ad2 0))]) d_L_law_654 hl rfl (by decide) (by decide) (fun _ => rfl) (fun v ls hl => ?_)
          refine gg_goto X 657 28 d_L_law_657 rfl ?_
          exact ih v _ _ (lv_sub hl [1, 2, 3, 0] rfl)
        · exact gg_none
      refine gg_eqc (fun h10 => ?_) (fun h10 => ?_)
      · refine gg_tin X 42 396 d_L_law_42 h10 (by decide) (by decide) rfl rfl ?_
        refine gg_aload_n X 396 d_L_law_396 rfl (lv_at hl 1 rfl) ?_
        refine gg_aload_n X 397 d_L_law_397 rfl (lv_at hl 0 rfl) ?_
        refine gg_iload_n X 398 d_L_law_398 rfl (lv_at hl 3 rfl) ?_
        refine gg_iconst X 399 (1 : Int32) d_L_law_399 (by decide) ?_
        refine gg_iadd X 400 d_L_law_400 ?_
        refine gl_sld X 401 hX hbl hbA d_L_law_401 ?_
        refine gl_callE X 402 [.int (xs (Int32.toNatClampNeg (x3 + (1 : Int32))))] [] (fun _ _ h sz => M_W_period l D dI ad _ (xs (Int32.toNatClampNeg (x3 + (1 : Int32)))) h sz) (cwV 1 X.1.2.2.2.2 (gwL w_309 w_310 w_311 w_1 w_312) rfl rfl rfl (by decide +kernel) ⟨by decide, by decide⟩) rfl hl.1 rfl (Nat.le_of_ble_eq_true rfl) (by decide) d_L_law_402 (fun r1 a1 => ?_)
        refine gg_show_v ?_
        refine gg_aload_n X 405 d_L_law_405 rfl (lv_at hl 2 rfl) ?_
        refine gg_aload_n X 406 d_L_law_406 rfl (lv_at hl 0 rfl) ?_
        refine gg_iload_n X 407 d_L_law_407 rfl (lv_at hl 3 rfl) ?_
        refine gg_iconst X 408 (1 : Int32) d_L_law_408 (by decide) ?_
        refine gg_iadd X 409 d_L_law_409 ?_
        refine gl_sld X 410 hX hbl hbA d_L_law_410 ?_
        refine gl_callM X 411 [.int (xs (Int32.toNatClampNeg (x3 + (1 : Int32))))] [] (fun _ _ h sz => M_M_period l D dI ad2 _ (xs (Int32.toNatClampNeg (x3 + (1 : Int32)))) h sz) (cwV 1 X.1.2.2.2.2 (gwL w_567 w_568 w_569 w_5 w_570) rfl rfl rfl (by decide +kernel) ⟨by decide, by decide⟩) rfl hl.1 rfl (Nat.le_of_ble_eq_true rfl) (by decide) d_L_law_411 (fun r2 b1 => ?_)
        refine gg_show_v ?_
        refine gg_goto X 414 654 d_L_law_414 rfl ?_
        refine gg_iinc X 654 (k := 3) (5 : Int32) (fun v => [(3, .int v), (0, .ref b), (1, .ref (ad 0)), (2, .ref (ad2 0))]) d_L_law_654 hl rfl (by decide) (by decide) (fun _ => rfl) (fun v ls hl => ?_)
        refine gg_goto X 657 28 d_L_law_657 rfl ?_
        exact ih v _ _ (lv_sub hl [1, 2, 3, 0] rfl)
      refine gg_eqc (fun h11 => ?_) (fun h11 => ?_)
      · refine gg_tin X 42 417 d_L_law_42 h11 (by decide) (by decide) rfl rfl ?_
        refine gg_aload_n X 417 d_L_law_417 rfl (lv_at hl 1 rfl) ?_
        refine gl_callE X 418 [] [] (fun _ _ h sz => M_W_tick l D dI ad _  h sz) (cwV 0 X.1.2.2.2.2 (gwL w_313 w_314 w_315 w_1 w_316) rfl rfl rfl (by decide +kernel) ⟨by decide, by decide⟩) rfl hl.1 rfl (Nat.le_of_ble_eq_true rfl) (by decide) d_L_law_418 (fun r1 a1 => ?_)
        refine gg_show_i ?_
        refine gg_aload_n X 421 d_L_law_421 rfl (lv_at hl 2 rfl) ?_
        refine gl_callM X 422 [] [.int r1] (fun _ _ h sz => M_M_tick l D dI ad2 _  h sz) (cwV 0 X.1.2.2.2.2 (gwL w_571 w_572 w_573 w_5 w_574) rfl rfl rfl (by decide +kernel) ⟨by decide, by decide⟩) rfl hl.1 rfl (Nat.le_of_ble_eq_true rfl) (by decide) d_L_law_422 (fun r2 b1 => ?_)
        refine gg_show_i ?_
        refine gg_icmp_eq X 425 654 d_L_law_425 rfl (fun _ => ?_) (fun _ => ?_)
        · refine gg_iinc X 654 (k := 3) (5 : Int32) (fun v => [(3, .int v), (0, .ref b), (1, .ref (ad 0)), (2, .ref (ad2 0))]) d_L_law_654 hl rfl (by decide) (by decide) (fun _ => rfl) (fun v ls hl => ?_)
          refine gg_goto X 657 28 d_L_law_657 rfl ?_
          exact ih v _ _ (lv_sub hl [1, 2, 3, 0] rfl)
        · exact gg_none
      refine gg_eqc (fun h12 => ?_) (fun h12 => ?_)
      · refine gg_tin X 42 430 d_L_law_42 h12 (by decide) (by decide) rfl rfl ?_
        refine gg_aload_n X 430 d_L_law_430 rfl (lv_at hl 1 rfl) ?_
        refine gl_callE X 431 [] [] (fun _ _ h sz => M_W_running l D dI ad _  h sz) (cwV 0 X.1.2.2.2.2 (gwL w_317 w_318 w_319 w_1 w_320) rfl rfl rfl (by decide +kernel) ⟨by decide, by decide⟩) rfl hl.1 rfl (Nat.le_of_ble_eq_true rfl) (by decide) d_L_law_431 (fun r1 a1 => ?_)
        refine gg_show_i ?_
        refine gg_aload_n X 434 d_L_law_434 rfl (lv_at hl 2 rfl) ?_
        refine gl_callM X 435 [] [.int r1] (fun _ _ h sz => M_M_running l D dI ad2 _  h sz) (cwV 0 X.1.2.2.2.2 (gwL w_575 w_576 w_577 w_5 w_578) rfl rfl rfl (by decide +kernel) ⟨by decide, by decide⟩) rfl hl.1 rfl (Nat.le_of_ble_eq_true rfl) (by decide) d_L_law_435 (fun r2 b1 => ?_)
        refine gg_show_i ?_
        refine gg_icmp_eq X 438 654 d_L_law_438 rfl (fun _ => ?_) (fun _ => ?_)
        · refine gg_iinc X 654 (k := 3) (5 : Int32) (fun v => [(3, .int v), (0, .ref b), (1, .ref (ad 0)), (2, .ref (ad2 0))]) d_L_law_654 hl rfl (by decide) (by decide) (fun _ => rfl) (fun v ls hl => ?_)
          refine gg_goto X 657 28 d_L_law_657 rfl ?_
          exact ih v _ _ (lv_sub hl [1, 2, 3, 0] rfl)
        · exact gg_none
      refine gg_eqc (fun h13 => ?_) (fun h13 => ?_)
      · refine gg_tin X 42 443 d_L_law_42 h13 (by decide) (by decide) rfl rfl ?_
        refine gg_aload_n X 443 d_L_law_443 rfl (lv_at hl 1 rfl) ?_
        refine gg_aload_n X 444 d_L_law_444 rfl (lv_at hl 0 rfl) ?_
        refine gg_iload_n X 445 d_L_law_445 rfl (lv_at hl 3 rfl) ?_
        refine gg_iconst X 446 (1 : Int32) d_L_law_446 (by decide) ?_
        refine gg_iadd X 447 d_L_law_447 ?_
        refine gl_sld X 448 hX hbl hbA d_L_law_448 ?_
        refine gl_callE X 449 [.int (xs (Int32.toNatClampNeg (x3 + (1 : Int32))))] [] (fun _ _ h sz => M_W_region l D dI ad _ (xs (Int32.toNatClampNeg (x3 + (1 : Int32)))) h sz) (cwV 1 X.1.2.2.2.2 (gwL w_321 w_322 w_323 w_1 w_324) rfl rfl rfl (by decide +kernel) ⟨by decide, by decide⟩) rfl hl.1 rfl (Nat.le_of_ble_eq_true rfl) (by decide) d_L_law_449 (fun r1 a1 => ?_)
        refine gg_show_i ?_
        refine gg_aload_n X 452 d_L_law_452 rfl (lv_at hl 2 rfl) ?_
        refine gg_aload_n X 453 d_L_law_453 rfl (lv_at hl 0 rfl) ?_
        refine gg_iload_n X 454 d_L_law_454 rfl (lv_at hl 3 rfl) ?_
        refine gg_iconst X 455 (1 : Int32) d_L_law_455 (by decide) ?_
        refine gg_iadd X 456 d_L_law_456 ?_
        refine gl_sld X 457 hX hbl hbA d_L_law_457 ?_
        refine gl_callM X 458 [.int (xs (Int32.toNatClampNeg (x3 + (1 : Int32))))] [.int r1] (fun _ _ h sz => M_M_region l D dI ad2 _ (xs (Int32.toNatClampNeg (x3 + (1 : Int32)))) h sz) (cwV 1 X.1.2.2.2.2 (gwL w_579 w_580 w_581 w_5 w_582) rfl rfl rfl (by decide +kernel) ⟨by decide, by decide⟩) rfl hl.1 rfl (Nat.le_of_ble_eq_true rfl) (by decide) d_L_law_458 (fun r2 b1 => ?_)
        refine gg_show_i ?_
        refine gg_icmp_eq X 461 654 d_L_law_461 rfl (fun _ => ?_) (fun _ => ?_)
        · refine gg_iinc X 654 (k := 3) (5 : Int32) (fun v => [(3, .int v), (0, .ref b), (1, .ref (ad 0)), (2, .ref (ad2 0))]) d_L_law_654 hl rfl (by decide) (by decide) (fun _ => rfl) (fun v ls hl => ?_)
          refine gg_goto X 657 28 d_L_law_657 rfl ?_
          exact ih v _ _ (lv_sub hl [1, 2, 3, 0] rfl)
        · exact gg_none
      refine gg_eqc (fun h14 => ?_) (fun h14 => ?_)
      · refine gg_tin X 42 466 d_L_law_42 h14 (by decide) (by decide) rfl rfl ?_
        refine gg_aload_n X 466 d_L_law_466 rfl (lv_at hl 1 rfl) ?_
        refine gg_aload_n X 467 d_L_law_467 rfl (lv_at hl 0 rfl) ?_
        refine gg_iload_n X 468 d_L_law_468 rfl (lv_at hl 3 rfl) ?_
        refine gg_iconst X 469 (1 : Int32) d_L_law_469 (by decide) ?_
        refine gg_iadd X 470 d_L_law_470 ?_
        refine gl_sld X 471 hX hbl hbA d_L_law_471 ?_
        refine gl_callE X 472 [.int (xs (Int32.toNatClampNeg (x3 + (1 : Int32))))] [] (fun _ _ h sz => M_W_enclave l D dI ad _ (xs (Int32.toNatClampNeg (x3 + (1 : Int32)))) h sz) (cwV 1 X.1.2.2.2.2 (gwL w_325 w_326 w_327 w_1 w_328) rfl rfl rfl (by decide +kernel) ⟨by decide, by decide⟩) rfl hl.1 rfl (Nat.le_of_ble_eq_true rfl) (by decide) d_L_law_472 (fun r1 a1 => ?_)
        refine gg_show_i ?_
        refine gg_aload_n X 475 d_L_law_475 rfl (lv_at hl 2 rfl) ?_
        refine gg_aload_n X 476 d_L_law_476 rfl (lv_at hl 0 rfl) ?_
        refine gg_iload_n X 477 d_L_law_477 rfl (lv_at hl 3 rfl) ?_
        refine gg_iconst X 478 (1 : Int32) d_L_law_478 (by decide) ?_
        refine gg_iadd X 479 d_L_law_479 ?_
        refine gl_sld X 480 hX hbl hbA d_L_law_480 ?_
        refine gl_callM X 481 [.int (xs (Int32.toNatClampNeg (x3 + (1 : Int32))))] [.int r1] (fun _ _ h sz => M_M_enclave l D dI ad2 _ (xs (Int32.toNatClampNeg (x3 + (1 : Int32)))) h sz) (cwV 1 X.1.2.2.2.2 (gwL w_583 w_584 w_585 w_5 w_586) rfl rfl rfl (by decide +kernel) ⟨by decide, by decide⟩) rfl hl.1 rfl (Nat.le_of_ble_eq_true rfl) (by decide) d_L_law_481 (fun r2 b1 => ?_)
        refine gg_show_i ?_
        refine gg_icmp_eq X 484 654 d_L_law_484 rfl (fun _ => ?_) (fun _ => ?_)
        · refine gg_iinc X 654 (k := 3) (5 : Int32) (fun v => [(3, .int v), (0, .ref b), (1, .ref (ad 0)), (2, .ref (ad2 0))]) d_L_law_654 hl rfl (by decide) (by decide) (fun _ => rfl) (fun v ls hl => ?_)
          refine gg_goto X 657 28 d_L_law_657 rfl ?_
          exact ih v _ _ (lv_sub hl [1, 2, 3, 0] rfl)
        · exact gg_none
      refine gg_eqc (fun h15 => ?_) (fun h15 => ?_)
      · refine gg_tin X 42 489 d_L_law_42 h15 (by decide) (by decide) rfl rfl ?_
        refine gg_aload_n X 489 d_L_law_489 rfl (lv_at hl 1 rfl) ?_
        refine gg_aload_n X 490 d_L_law_490 rfl (lv_at hl 0 rfl) ?_
        refine gg_iload_n X 491 d_L_law_491 rfl (lv_at hl 3 rfl) ?_
        refine gg_iconst X 492 (1 : Int32) d_L_law_492 (by decide) ?_
        refine gg_iadd X 493 d_L_law_493 ?_
        refine gl_sld X 494 hX hbl hbA d_L_law_494 ?_
        refine gg_aload_n X 495 d_L_law_495 rfl (lv_at hl 0 rfl) ?_
        refine gg_iload_n X 496 d_L_law_496 rfl (lv_at hl 3 rfl) ?_
        refine gg_iconst X 497 (2 : Int32) d_L_law_497 (by decide) ?_
        refine gg_iadd X 498 d_L_law_498 ?_
        refine gl_sld X 499 hX hbl hbA d_L_law_499 ?_
        refine gl_callE X 500 [.int (xs (Int32.toNatClampNeg (x3 + (1 : Int32)))), .int (xs (Int32.toNatClampNeg (x3 + (2 : Int32))))] [] (fun _ _ h sz => M_W_thread l D dI ad _ (xs (Int32.toNatClampNeg (x3 + (1 : Int32)))) (xs (Int32.toNatClampNeg (x3 + (2 : Int32)))) h sz) (cwV 2 X.1.2.2.2.2 (gwL w_329 w_330 w_331 w_1 w_332) rfl rfl rfl (by decide +kernel) ⟨by decide, by decide⟩) rfl hl.1 rfl (Nat.le_of_ble_eq_true rfl) (by decide) d_L_law_500 (fun r1 a1 => ?_)
        refine gg_show_i ?_
        refine gg_aload_n X 503 d_L_law_503 rfl (lv_at hl 2 rfl) ?_
        refine gg_aload_n X 504 d_L_law_504 rfl (lv_at hl 0 rfl) ?_
        refine gg_iload_n X 505 d_L_law_505 rfl (lv_at hl 3 rfl) ?_
        refine gg_iconst X 506 (1 : Int32) d_L_law_506 (by decide) ?_
        refine gg_iadd X 507 d_L_law_507 ?_
        refine gl_sld X 508 hX hbl hbA d_L_law_508 ?_
        refine gg_aload_n X 509 d_L_law_509 rfl (lv_at hl 0 rfl) ?_
        refine gg_iload_n X 510 d_L_law_510 rfl (lv_at hl 3 rfl) ?_
        refine gg_iconst X 511 (2 : Int32) d_L_law_511 (by decide) ?_
        refine gg_iadd X 512 d_L_law_512 ?_
        refine gl_sld X 513 hX hbl hbA d_L_law_513 ?_
        refine gl_callM X 514 [.int (xs (Int32.toNatClampNeg (x3 + (1 : Int32)))), .int (xs (Int32.toNatClampNeg (x3 + (2 : Int32))))] [.int r1] (fun _ _ h sz => M_M_thread l D dI ad2 _ (xs (Int32.toNatClampNeg (x3 + (1 : Int32)))) (xs (Int32.toNatClampNeg (x3 + (2 : Int32)))) h sz) (cwV 2 X.1.2.2.2.2 (gwL w_587 w_504 w_505 w_5 w_506) rfl rfl rfl (by decide +kernel) ⟨by decide, by decide⟩) rfl hl.1 rfl (Nat.le_of_ble_eq_true rfl) (by decide) d_L_law_514 (fun r2 b1 => ?_)
        refine gg_show_i ?_
        refine gg_icmp_eq X 517 654 d_L_law_517 rfl (fun _ => ?_) (fun _ => ?_)
        · refine gg_iinc X 654 (k := 3) (5 : Int32) (fun v => [(3, .int v), (0, .ref b), (1, .ref (ad 0)), (2, .ref (ad2 0))]) d_L_law_654 hl rfl (by decide) (by decide) (fun _ => rfl) (fun v ls hl => ?_)
          refine gg_goto X 657 28 d_L_law_657 rfl ?_
          exact ih v _ _ (lv_sub hl [1, 2, 3, 0] rfl)
        · exact gg_none
      refine gg_eqc (fun h16 => ?_) (fun h16 => ?_)
      · refine gg_tin X 42 522 d_L_law_42 h16 (by decide) (by decide) rfl rfl ?_
        refine gg_aload_n X 522 d_L_law_522 rfl (lv_at hl 1 rfl) ?_
        refine gg_aload_n X 523 d_L_law_523 rfl (lv_at hl 0 rfl) ?_
        refine gg_iload_n X 524 d_L_law_524 rfl (lv_at hl 3 rfl) ?_
        refine gg_iconst X 525 (1 : Int32) d_L_law_525 (by decide) ?_
        refine gg_iadd X 526 d_L_law_526 ?_
        refine gl_sld X 527 hX hbl hbA d_L_law_527 ?_
        refine gg_aload_n X 528 d_L_law_528 rfl (lv_at hl 0 rfl) ?_
        refine gg_iload_n X 529 d_L_law_529 rfl (lv_at hl 3 rfl) ?_
        refine gg_iconst X 530 (2 : Int32) d_L_law_530 (by decide) ?_
        refine gg_iadd X 531 d_L_law_531 ?_
        refine gl_sld X 532 hX hbl hbA d_L_law_532 ?_
        refine gg_aload_n X 533 d_L_law_533 rfl (lv_at hl 0 rfl) ?_
        refine gg_iload_n X 534 d_L_law_534 rfl (lv_at hl 3 rfl) ?_
        refine gg_iconst X 535 (3 : Int32) d_L_law_535 (by decide) ?_
        refine gg_iadd X 536 d_L_law_536 ?_
        refine gl_sld X 537 hX hbl hbA d_L_law_537 ?_
        refine gl_callE X 538 [.int (xs (Int32.toNatClampNeg (x3 + (1 : Int32)))), .int (xs (Int32.toNatClampNeg (x3 + (2 : Int32)))), .int (xs (Int32.toNatClampNeg (x3 + (3 : Int32))))] [] (fun _ _ h sz => M_W_kept l D dI ad _ (xs (Int32.toNatClampNeg (x3 + (1 : Int32)))) (xs (Int32.toNatClampNeg (x3 + (2 : Int32)))) (xs (Int32.toNatClampNeg (x3 + (3 : Int32)))) h sz) (cwV 3 X.1.2.2.2.2 (gwL w_333 w_334 w_335 w_1 w_336) rfl rfl rfl (by decide +kernel) ⟨by decide, by decide⟩) rfl hl.1 rfl (Nat.le_of_ble_eq_true rfl) (by decide) d_L_law_538 (fun r1 a1 => ?_)
        refine gg_show_i ?_
        refine gg_aload_n X 541 d_L_law_541 rfl (lv_at hl 2 rfl) ?_
        refine gg_aload_n X 542 d_L_law_542 rfl (lv_at hl 0 rfl) ?_
        refine gg_iload_n X 543 d_L_law_543 rfl (lv_at hl 3 rfl) ?_
        refine gg_iconst X 544 (1 : Int32) d_L_law_544 (by decide) ?_
        refine gg_iadd X 545 d_L_law_545 ?_
        refine gl_sld X 546 hX hbl hbA d_L_law_546 ?_
        refine gg_aload_n X 547 d_L_law_547 rfl (lv_at hl 0 rfl) ?_
        refine gg_iload_n X 548 d_L_law_548 rfl (lv_at hl 3 rfl) ?_
        refine gg_iconst X 549 (2 : Int32) d_L_law_549 (by decide) ?_
        refine gg_iadd X 550 d_L_law_550 ?_
        refine gl_sld X 551 hX hbl hbA d_L_law_551 ?_
        refine gg_aload_n X 552 d_L_law_552 rfl (lv_at hl 0 rfl) ?_
        refine gg_iload_n X 553 d_L_law_553 rfl (lv_at hl 3 rfl) ?_
        refine gg_iconst X 554 (3 : Int32) d_L_law_554 (by decide) ?_
        refine gg_iadd X 555 d_L_law_555 ?_
        refine gl_sld X 556 hX hbl hbA d_L_law_556 ?_
        refine gl_callM X 557 [.int (xs (Int32.toNatClampNeg (x3 + (1 : Int32)))), .int (xs (Int32.toNatClampNeg (x3 + (2 : Int32)))), .int (xs (Int32.toNatClampNeg (x3 + (3 : Int32))))] [.int r1] (fun _ _ h sz => M_M_kept l D dI ad2 _ (xs (Int32.toNatClampNeg (x3 + (1 : Int32)))) (xs (Int32.toNatClampNeg (x3 + (2 : Int32)))) (xs (Int32.toNatClampNeg (x3 + (3 : Int32)))) h sz) (cwV 3 X.1.2.2.2.2 (gwL w_588 w_589 w_590 w_5 w_591) rfl rfl rfl (by decide +kernel) ⟨by decide, by decide⟩) rfl hl.1 rfl (Nat.le_of_ble_eq_true rfl) (by decide) d_L_law_557 (fun r2 b1 => ?_)
        refine gg_show_i ?_
        refine gg_icmp_eq X 560 654 d_L_law_560 rfl (fun _ => ?_) (fun _ => ?_)
        · refine gg_iinc X 654 (k := 3) (5 : Int32) (fun v => [(3, .int v), (0, .ref b), (1, .ref (ad 0)), (2, .ref (ad2 0))]) d_L_law_654 hl rfl (by decide) (by decide) (fun _ => rfl) (fun v ls hl => ?_)
          refine gg_goto X 657 28 d_L_law_657 rfl ?_
          exact ih v _ _ (lv_sub hl [1, 2, 3, 0] rfl)
        · exact gg_none
      refine gg_eqc (fun h17 => ?_) (fun h17 => ?_)
      · refine gg_tin X 42 565 d_L_law_42 h17 (by decide) (by decide) rfl rfl ?_
        refine gg_aload_n X 565 d_L_law_565 rfl (lv_at hl 1 rfl) ?_
        refine gg_aload_n X 566 d_L_law_566 rfl (lv_at hl 0 rfl) ?_
        refine gg_iload_n X 567 d_L_law_567 rfl (lv_at hl 3 rfl) ?_
        refine gg_iconst X 568 (1 : Int32) d_L_law_568 (by decide) ?_
        refine gg_iadd X 569 d_L_law_569 ?_
        refine gl_sld X 570 hX hbl hbA d_L_law_570 ?_
        refine gl_callE X 571 [.int (xs (Int32.toNatClampNeg (x3 + (1 : Int32))))] [] (fun _ _ h sz => M_W_measure l D dI ad _ (xs (Int32.toNatClampNeg (x3 + (1 : Int32)))) h sz) (cwV 1 X.1.2.2.2.2 (gwL w_337 w_338 w_339 w_1 w_340) rfl rfl rfl (by decide +kernel) ⟨by decide, by decide⟩) rfl hl.1 rfl (Nat.le_of_ble_eq_true rfl) (by decide) d_L_law_571 (fun r1 a1 => ?_)
        refine gg_show_i ?_
        refine gg_aload_n X 574 d_L_law_574 rfl (lv_at hl 2 rfl) ?_
        refine gg_aload_n X 575 d_L_law_575 rfl (lv_at hl 0 rfl) ?_
        refine gg_iload_n X 576 d_L_law_576 rfl (lv_at hl 3 rfl) ?_
        refine gg_iconst X 577 (1 : Int32) d_L_law_577 (by decide) ?_
        refine gg_iadd X 578 d_L_law_578 ?_
        refine gl_sld X 579 hX hbl hbA d_L_law_579 ?_
        refine gl_callM X 580 [.int (xs (Int32.toNatClampNeg (x3 + (1 : Int32))))] [.int r1] (fun _ _ h sz => M_M_measure l D dI ad2 _ (xs (Int32.toNatClampNeg (x3 + (1 : Int32)))) h sz) (cwV 1 X.1.2.2.2.2 (gwL w_592 w_593 w_594 w_5 w_595) rfl rfl rfl (by decide +kernel) ⟨by decide, by decide⟩) rfl hl.1 rfl (Nat.le_of_ble_eq_true rfl) (by decide) d_L_law_580 (fun r2 b1 => ?_)
        refine gg_show_i ?_
        refine gg_icmp_eq X 583 654 d_L_law_583 rfl (fun _ => ?_) (fun _ => ?_)
        · refine gg_iinc X 654 (k := 3) (5 : Int32) (fun v => [(3, .int v), (0, .ref b), (1, .ref (ad 0)), (2, .ref (ad2 0))]) d_L_law_654 hl rfl (by decide) (by decide) (fun _ => rfl) (fun v ls hl => ?_)
          refine gg_goto X 657 28 d_L_law_657 rfl ?_
          exact ih v _ _ (lv_sub hl [1, 2, 3, 0] rfl)
        · exact gg_none
      refine gg_eqc (fun h18 => ?_) (fun h18 => ?_)
      · refine gg_tin X 42 588 d_L_law_42 h18 (by decide) (by decide) rfl rfl ?_
        refine gg_aload_n X 588 d_L_law_588 rfl (lv_at hl 1 rfl) ?_
        refine gg_aload_n X 589 d_L_law_589 rfl (lv_at hl 0 rfl) ?_
        refine gg_iload_n X 590 d_L_law_590 rfl (lv_at hl 3 rfl) ?_
        refine gg_iconst X 591 (1 : Int32) d_L_law_591 (by decide) ?_
        refine gg_iadd X 592 d_L_law_592 ?_
        refine gl_sld X 593 hX hbl hbA d_L_law_593 ?_
        refine gg_aload_n X 594 d_L_law_594 rfl (lv_at hl 0 rfl) ?_
        refine gg_iload_n X 595 d_L_law_595 rfl (lv_at hl 3 rfl) ?_
        refine gg_iconst X 596 (2 : Int32) d_L_law_596 (by decide) ?_
        refine gg_iadd X 597 d_L_law_597 ?_
        refine gl_sld X 598 hX hbl hbA d_L_law_598 ?_
        refine gg_aload_n X 599 d_L_law_599 rfl (lv_at hl 0 rfl) ?_
        refine gg_iload_n X 600 d_L_law_600 rfl (lv_at hl 3 rfl) ?_
        refine gg_iconst X 601 (3 : Int32) d_L_law_601 (by decide) ?_
        refine gg_iadd X 602 d_L_law_602 ?_
        refine gl_sld X 603 hX hbl hbA d_L_law_603 ?_
        refine gl_callE X 604 [.int (xs (Int32.toNatClampNeg (x3 + (1 : Int32)))), .int (xs (Int32.toNatClampNeg (x3 + (2 : Int32)))), .int (xs (Int32.toNatClampNeg (x3 + (3 : Int32))))] [] (fun _ _ h sz => M_W_vouch l D dI ad _ (xs (Int32.toNatClampNeg (x3 + (1 : Int32)))) (xs (Int32.toNatClampNeg (x3 + (2 : Int32)))) (xs (Int32.toNatClampNeg (x3 + (3 : Int32)))) h sz) (cwV 3 X.1.2.2.2.2 (gwL w_341 w_342 w_343 w_1 w_344) rfl rfl rfl (by decide +kernel) ⟨by decide, by decide⟩) rfl hl.1 rfl (Nat.le_of_ble_eq_true rfl) (by decide) d_L_law_604 (fun r1 a1 => ?_)
        refine gg_show_i ?_
        refine gg_aload_n X 607 d_L_law_607 rfl (lv_at hl 2 rfl) ?_
        refine gg_aload_n X 608 d_L_law_608 rfl (lv_at hl 0 rfl) ?_
        refine gg_iload_n X 609 d_L_law_609 rfl (lv_at hl 3 rfl) ?_
        refine gg_iconst X 610 (1 : Int32) d_L_law_610 (by decide) ?_
        refine gg_iadd X 611 d_L_law_611 ?_
        refine gl_sld X 612 hX hbl hbA d_L_law_612 ?_
        refine gg_aload_n X 613 d_L_law_613 rfl (lv_at hl 0 rfl) ?_
        refine gg_iload_n X 614 d_L_law_614 rfl (lv_at hl 3 rfl) ?_
        refine gg_iconst X 615 (2 : Int32) d_L_law_615 (by decide) ?_
        refine gg_iadd X 616 d_L_law_616 ?_
        refine gl_sld X 617 hX hbl hbA d_L_law_617 ?_
        refine gg_aload_n X 618 d_L_law_618 rfl (lv_at hl 0 rfl) ?_
        refine gg_iload_n X 619 d_L_law_619 rfl (lv_at hl 3 rfl) ?_
        refine gg_iconst X 620 (3 : Int32) d_L_law_620 (by decide) ?_
        refine gg_iadd X 621 d_L_law_621 ?_
        refine gl_sld X 622 hX hbl hbA d_L_law_622 ?_
        refine gl_callM X 623 [.int (xs (Int32.toNatClampNeg (x3 + (1 : Int32)))), .int (xs (Int32.toNatClampNeg (x3 + (2 : Int32)))), .int (xs (Int32.toNatClampNeg (x3 + (3 : Int32))))] [.int r1] (fun _ _ h sz => M_M_vouch l D dI ad2 _ (xs (Int32.toNatClampNeg (x3 + (1 : Int32)))) (xs (Int32.toNatClampNeg (x3 + (2 : Int32)))) (xs (Int32.toNatClampNeg (x3 + (3 : Int32)))) h sz) (cwV 3 X.1.2.2.2.2 (gwL w_596 w_597 w_598 w_5 w_599) rfl rfl rfl (by decide +kernel) ⟨by decide, by decide⟩) rfl hl.1 rfl (Nat.le_of_ble_eq_true rfl) (by decide) d_L_law_623 (fun r2 b1 => ?_)
        refine gg_show_i ?_
        refine gg_icmp_eq X 626 654 d_L_law_626 rfl (fun _ => ?_) (fun _ => ?_)
        · refine gg_iinc X 654 (k := 3) (5 : Int32) (fun v => [(3, .int v), (0, .ref b), (1, .ref (ad 0)), (2, .ref (ad2 0))]) d_L_law_654 hl rfl (by decide) (by decide) (fun _ => rfl) (fun v ls hl => ?_)
          refine gg_goto X 657 28 d_L_law_657 rfl ?_
          exact ih v _ _ (lv_sub hl [1, 2, 3, 0] rfl)
        · exact gg_none
      refine gg_eqc (fun h19 => ?_) (fun h19 => ?_)
      · refine gg_tin X 42 631 d_L_law_42 h19 (by decide) (by decide) rfl rfl ?_
        refine gg_aload_n X 631 d_L_law_631 rfl (lv_at hl 1 rfl) ?_
        refine gg_aload_n X 632 d_L_law_632 rfl (lv_at hl 0 rfl) ?_
        refine gg_iload_n X 633 d_L_law_633 rfl (lv_at hl 3 rfl) ?_
        refine gg_iconst X 634 (1 : Int32) d_L_law_634 (by decide) ?_
        refine gg_iadd X 635 d_L_law_635 ?_
        refine gl_sld X 636 hX hbl hbA d_L_law_636 ?_
        refine gl_callE X 637 [.int (xs (Int32.toNatClampNeg (x3 + (1 : Int32))))] [] (fun _ _ h sz => M_W_exit l D dI ad _ (xs (Int32.toNatClampNeg (x3 + (1 : Int32)))) h sz) (cwV 1 X.1.2.2.2.2 (gwL w_345 w_346 w_347 w_1 w_348) rfl rfl rfl (by decide +kernel) ⟨by decide, by decide⟩) rfl hl.1 rfl (Nat.le_of_ble_eq_true rfl) (by decide) d_L_law_637 (fun r1 a1 => ?_)
        refine gg_show_i ?_
        refine gg_aload_n X 640 d_L_law_640 rfl (lv_at hl 2 rfl) ?_
        refine gg_aload_n X 641 d_L_law_641 rfl (lv_at hl 0 rfl) ?_
        refine gg_iload_n X 642 d_L_law_642 rfl (lv_at hl 3 rfl) ?_
        refine gg_iconst X 643 (1 : Int32) d_L_law_643 (by decide) ?_
        refine gg_iadd X 644 d_L_law_644 ?_
        refine gl_sld X 645 hX hbl hbA d_L_law_645 ?_
        refine gl_callM X 646 [.int (xs (Int32.toNatClampNeg (x3 + (1 : Int32))))] [.int r1] (fun _ _ h sz => M_M_exit l D dI ad2 _ (xs (Int32.toNatClampNeg (x3 + (1 : Int32)))) h sz) (cwV 1 X.1.2.2.2.2 (gwL w_600 w_601 w_602 w_5 w_603) rfl rfl rfl (by decide +kernel) ⟨by decide, by decide⟩) rfl hl.1 rfl (Nat.le_of_ble_eq_true rfl) (by decide) d_L_law_646 (fun r2 b1 => ?_)
        refine gg_show_i ?_
        refine gg_icmp_eq X 649 654 d_L_law_649 rfl (fun _ => ?_) (fun _ => ?_)
        · refine gg_iinc X 654 (k := 3) (5 : Int32) (fun v => [(3, .int v), (0, .ref b), (1, .ref (ad 0)), (2, .ref (ad2 0))]) d_L_law_654 hl rfl (by decide) (by decide) (fun _ => rfl) (fun v ls hl => ?_)
          refine gg_goto X 657 28 d_L_law_657 rfl ?_
          exact ih v _ _ (lv_sub hl [1, 2, 3, 0] rfl)
        · exact gg_none
      refine gg_tout X 42 654 d_L_law_42 (by have g0 := lv_neT (a := 0) h0 (by decide); have g1 := lv_neT (a := 1) h1 (by decide); have g2 := lv_neT (a := 2) h2 (by decide); have g3 := lv_neT (a := 3) h3 (by decide); have g4 := lv_neT (a := 4) h4 (by decide); have g5 := lv_neT (a := 5) h5 (by decide); have g6 := lv_neT (a := 6) h6 (by decide); have g7 := lv_neT (a := 7) h7 (by decide); have g8 := lv_neT (a := 8) h8 (by decide); have g9 := lv_neT (a := 9) h9 (by decide); have g10 := lv_neT (a := 10) h10 (by decide); have g11 := lv_neT (a := 11) h11 (by decide); have g12 := lv_neT (a := 12) h12 (by decide); have g13 := lv_neT (a := 13) h13 (by decide); have g14 := lv_neT (a := 14) h14 (by decide); have g15 := lv_neT (a := 15) h15 (by decide); have g16 := lv_neT (a := 16) h16 (by decide); have g17 := lv_neT (a := 17) h17 (by decide); have g18 := lv_neT (a := 18) h18 (by decide); have g19 := lv_neT (a := 19) h19 (by decide); omega) rfl ?_
      refine gg_iinc X 654 (k := 3) (5 : Int32) (fun v => [(3, .int v), (0, .ref b), (1, .ref (ad 0)), (2, .ref (ad2 0))]) d_L_law_654 hl rfl (by decide) (by decide) (fun _ => rfl) (fun v ls hl => ?_)
      refine gg_goto X 657 28 d_L_law_657 rfl ?_
      exact ih v _ _ (lv_sub hl [1, 2, 3, 0] rfl)
theorem law_call {x y : Option (Int32 × eS)} {g : eS × eS → Option (Int32 × (eS × eS))} (h : Sim x y) (hg : ∀ a b, Rel a b → ∃ q, g (a, b) = some (1, q)) : ∃ q, (bnd x fun r1 a1 => bnd y fun r2 b1 => if r1 = r2 then g (a1, b1) else none) = some (1, q) := by
  obtain ⟨r, a, b, rfl, rfl, h⟩ := h
  obtain ⟨q, hq⟩ := hg a b h
  exact ⟨q, by rw [bnd_s, bnd_s, if_pos rfl, hq]⟩
theorem law_callU {x y : Option (Unit × eS)} {g : eS × eS → Option (Int32 × (eS × eS))} (h : SimU x y) (hg : ∀ a b, Rel a b → ∃ q, g (a, b) = some (1, q)) : ∃ q, (bnd x fun _ a1 => bnd y fun _ b1 => g (a1, b1)) = some (1, q) := by
  obtain ⟨a, b, rfl, rfl, h⟩ := h
  obtain ⟨q, hq⟩ := hg a b h
  exact ⟨q, by rw [bnd_s, bnd_s, hq]⟩
theorem law_loop {L : Nat} {xs : Nat → Int32} (hL : L ≤ 2561) : ∀ (n i fl : Nat) (a b : eS), Rel a b → i < 3000 → L < i + 5 * n → n ≤ fl → ∃ q, f_L L xs (fl + 1) (nI i) (a, b) = some (1, q) := by
  intro n
  induction n with
  | zero =>
    intro i fl a b h hi hn hf
    have hc : nI L - (5 : Int32) < nI i := by
      rw [Int32.lt_iff_toInt_lt, show (5 : Int32) = nI 5 from rfl, pk_sub_toInt (by omega) (by decide), nI_toInt (by omega)]
      omega
    exact ⟨(a, b), by rw [f_L, if_pos hc]⟩
  | succ n ih =>
    intro i fl a b h hi hn hf
    obtain ⟨fl, rfl⟩ : ∃ z, fl = z + 1 := ⟨fl - 1, by omega⟩
    by_cases hc : nI L - (5 : Int32) < nI i
    · exact ⟨(a, b), by rw [f_L, if_pos hc]⟩
    · have hi5 : i + 5 ≤ L := by
        rw [Int32.lt_iff_toInt_lt, show (5 : Int32) = nI 5 from rfl, pk_sub_toInt (by omega) (by decide), nI_toInt (by omega)] at hc
        omega
      have nx : ∀ a b, Rel a b → ∃ q, f_L L xs (fl + 1) (nI i + 5) (a, b) = some (1, q) := fun a b h => by
        rw [show nI i + (5 : Int32) = nI (i + 5) from nI_add i 5]
        exact ih (i + 5) fl a b h (by omega) (by omega) (by omega)
      rw [f_L, if_neg hc, ix_nI (by omega) (by omega)]
      have l1 : nI i + (1 : Int32) = nI (i + 1) := nI_add i 1
      have l2 : nI i + (2 : Int32) = nI (i + 2) := nI_add i 2
      have l3 : nI i + (3 : Int32) = nI (i + 3) := nI_add i 3
      have l4 : nI i + (4 : Int32) = nI (i + 4) := nI_add i 4
      have x1 : ∀ k : Option (Int32 × (eS × eS)), ix (nI i + 1) L k = k := fun k => by rw [l1]; exact ix_nI (by omega) (by omega)
      have x2 : ∀ k : Option (Int32 × (eS × eS)), ix (nI i + 2) L k = k := fun k => by rw [l2]; exact ix_nI (by omega) (by omega)
      have x3 : ∀ k : Option (Int32 × (eS × eS)), ix (nI i + 3) L k = k := fun k => by rw [l3]; exact ix_nI (by omega) (by omega)
      have x4 : ∀ k : Option (Int32 × (eS × eS)), ix (nI i + 4) L k = k := fun k => by rw [l4]; exact ix_nI (by omega) (by omega)
      simp only [x1, x2, x3, x4, nm_s]
      by_cases h0 : (xs (Int32.toNatClampNeg (nI i)) &&& (31 : Int32)) = (0 : Int32)
      · rw [if_pos h0]; exact law_call (g := fun z => f_L L xs (fl + 1) (nI i + 5) z) (s_poke h _ _) nx
      rw [if_neg h0]
      by_cases h1 : (xs (Int32.toNatClampNeg (nI i)) &&& (31 : Int32)) = (1 : Int32)
      · rw [if_pos h1]; exact law_call (g := fun z => f_L L xs (fl + 1) (nI i + 5) z) (s_peek h _) nx
      rw [if_neg h1]
      by_cases h2 : (xs (Int32.toNatClampNeg (nI i)) &&& (31 : Int32)) = (2 : Int32)
      · rw [if_pos h2]; exact law_call (g := fun z => f_L L xs (fl + 1) (nI i + 5) z) (s_bare h _) nx
      rw [if_neg h2]
      by_cases h3 : (xs (Int32.toNatClampNeg (nI i)) &&& (31 : Int32)) = (3 : Int32)
      · rw [if_pos h3]; exact law_call (g := fun z => f_L L xs (fl + 1) (nI i + 5) z) (s_give h _ _) nx
      rw [if_neg h3]
      by_cases h4 : (xs (Int32.toNatClampNeg (nI i)) &&& (31 : Int32)) = (4 : Int32)
      · rw [if_pos h4]; exact law_call (g := fun z => f_L L xs (fl + 1) (nI i + 5) z) (s_register h _) nx
      rw [if_neg h4]
      by_cases h5 : (xs (Int32.toNatClampNeg (nI i)) &&& (31 : Int32)) = (5 : Int32)
      · rw [if_pos h5]; exact law_call (g := fun z => f_L L xs (fl + 1) (nI i + 5) z) (s_pc h) nx
      rw [if_neg h5]
      by_cases h6 : (xs (Int32.toNatClampNeg (nI i)) &&& (31 : Int32)) = (6 : Int32)
      · rw [if_pos h6]; exact law_call (g := fun z => f_L L xs (fl + 1) (nI i + 5) z) (s_boot h _) nx
      rw [if_neg h6]
      by_cases h7 : (xs (Int32.toNatClampNeg (nI i)) &&& (31 : Int32)) = (7 : Int32)
      · rw [if_pos h7]; exact law_call (g := fun z => f_L L xs (fl + 1) (nI i + 5) z) (s_halted h) nx
      rw [if_neg h7]
      by_cases h8 : (xs (Int32.toNatClampNeg (nI i)) &&& (31 : Int32)) = (8 : Int32)
      · rw [if_pos h8]; exact law_call (g := fun z => f_L L xs (fl + 1) (nI i + 5) z) (s_call h _ _ _ _) nx
      rw [if_neg h8]
      by_cases h9 : (xs (Int32.toNatClampNeg (nI i)) &&& (31 : Int32)) = (9 : Int32)
      · rw [if_pos h9]; exact law_call (g := fun z => f_L L xs (fl + 1) (nI i + 5) z) (s_run h _) nx
      rw [if_neg h9]
      by_cases h10 : (xs (Int32.toNatClampNeg (nI i)) &&& (31 : Int32)) = (10 : Int32)
      · rw [if_pos h10]; exact law_callU (g := fun z => f_L L xs (fl + 1) (nI i + 5) z) (s_period h _) nx
      rw [if_neg h10]
      by_cases h11 : (xs (Int32.toNatClampNeg (nI i)) &&& (31 : Int32)) = (11 : Int32)
      · rw [if_pos h11]; exact law_call (g := fun z => f_L L xs (fl + 1) (nI i + 5) z) (s_tick h) nx
      rw [if_neg h11]
      by_cases h12 : (xs (Int32.toNatClampNeg (nI i)) &&& (31 : Int32)) = (12 : Int32)
      · rw [if_pos h12]; exact law_call (g := fun z => f_L L xs (fl + 1) (nI i + 5) z) (s_running h) nx
      rw [if_neg h12]
      by_cases h13 : (xs (Int32.toNatClampNeg (nI i)) &&& (31 : Int32)) = (13 : Int32)
      · rw [if_pos h13]; exact law_call (g := fun z => f_L L xs (fl + 1) (nI i + 5) z) (s_region h _) nx
      rw [if_neg h13]
      by_cases h14 : (xs (Int32.toNatClampNeg (nI i)) &&& (31 : Int32)) = (14 : Int32)
      · rw [if_pos h14]; exact law_call (g := fun z => f_L L xs (fl + 1) (nI i + 5) z) (s_enclave h _) nx
      rw [if_neg h14]
      by_cases h15 : (xs (Int32.toNatClampNeg (nI i)) &&& (31 : Int32)) = (15 : Int32)
      · rw [if_pos h15]; exact law_call (g := fun z => f_L L xs (fl + 1) (nI i + 5) z) (s_thread h _ _) nx
      rw [if_neg h15]
      by_cases h16 : (xs (Int32.toNatClampNeg (nI i)) &&& (31 : Int32)) = (16 : Int32)
      · rw [if_pos h16]; exact law_call (g := fun z => f_L L xs (fl + 1) (nI i + 5) z) (s_kept h _ _ _) nx
      rw [if_neg h16]
      by_cases h17 : (xs (Int32.toNatClampNeg (nI i)) &&& (31 : Int32)) = (17 : Int32)
      · rw [if_pos h17]; exact law_call (g := fun z => f_L L xs (fl + 1) (nI i + 5) z) (s_measure h _) nx
      rw [if_neg h17]
      by_cases h18 : (xs (Int32.toNatClampNeg (nI i)) &&& (31 : Int32)) = (18 : Int32)
      · rw [if_pos h18]; exact law_call (g := fun z => f_L L xs (fl + 1) (nI i + 5) z) (s_vouch h _ _ _) nx
      rw [if_neg h18]
      by_cases h19 : (xs (Int32.toNatClampNeg (nI i)) &&& (31 : Int32)) = (19 : Int32)
      · rw [if_pos h19]; exact law_call (g := fun z => f_L L xs (fl + 1) (nI i + 5) z) (s_exit h _) nx
      rw [if_neg h19]
      exact nx a b h
