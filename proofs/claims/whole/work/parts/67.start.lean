theorem w_0 : Cond.initialized "EnclaveWardenLaw" ∈ WS := ws_tbl (show _ ∈ tables_1 from List.mem_append_left _ (show _ ∈ tables_1_1 from List.mem_of_getElem? (i := 0) (by decide +kernel))) (by decide +kernel)
theorem w_6 : Cond.classLink "EnclaveWardenLaw" 7 "EnclaveWarden" ∈ WS := ws_tbl (show _ ∈ tables_1 from List.mem_append_left _ (show _ ∈ tables_1_1 from List.mem_of_getElem? (i := 6) (by decide +kernel))) (by decide +kernel)
theorem w_7 : Cond.instantiable "EnclaveWarden" 10 ∈ WS := ws_tbl (show _ ∈ tables_1 from List.mem_append_left _ (show _ ∈ tables_1_1 from List.mem_of_getElem? (i := 7) (by decide +kernel))) (by decide +kernel)
theorem w_8 : Cond.methodLink "EnclaveWardenLaw" 15 ⟨"EnclaveWarden", "<init>", "(I)V"⟩ ∈ WS := ws_tbl (show _ ∈ tables_1 from List.mem_append_left _ (show _ ∈ tables_1_1 from List.mem_of_getElem? (i := 8) (by decide +kernel))) (by decide +kernel)
theorem w_9 : Cond.instanceMethod ⟨"EnclaveWarden", "<init>", "(I)V"⟩ ∈ WS := ws_tbl (show _ ∈ tables_1 from List.mem_append_left _ (show _ ∈ tables_1_1 from List.mem_of_getElem? (i := 9) (by decide +kernel))) (by decide +kernel)
theorem w_10 : Cond.code ⟨"EnclaveWarden", "<init>", "(I)V"⟩ prog_1_method_1_code 3 none ∈ WS := ws_tbl (show _ ∈ tables_1 from List.mem_append_left _ (show _ ∈ tables_1_1 from List.mem_of_getElem? (i := 10) rfl)) (by decide +kernel)
theorem w_349 : Cond.methodLink "EnclaveWardenLaw" 9 ⟨"EnclaveWardenLaw", "cell", "([II)I"⟩ ∈ WS := ws_tbl (show _ ∈ tables_1 from List.mem_append_right _ (List.mem_append_left _ (show _ ∈ tables_1_2 from List.mem_of_getElem? (i := 109) (by decide +kernel)))) (by decide +kernel)
theorem w_350 : Cond.static ⟨"EnclaveWardenLaw", "cell", "([II)I"⟩ ∈ WS := ws_tbl (show _ ∈ tables_1 from List.mem_append_right _ (List.mem_append_left _ (show _ ∈ tables_1_2 from List.mem_of_getElem? (i := 110) (by decide +kernel)))) (by decide +kernel)
theorem w_351 : Cond.code ⟨"EnclaveWardenLaw", "cell", "([II)I"⟩ method_2_code 2 (Option.some .int) ∈ WS := ws_tbl (show _ ∈ tables_1 from List.mem_append_right _ (List.mem_append_left _ (show _ ∈ tables_1_2 from List.mem_of_getElem? (i := 111) rfl))) (by decide +kernel)
theorem w_352 : Cond.classLink "EnclaveWardenLaw" 18 "EnclaveWardenModel" ∈ WS := ws_tbl (show _ ∈ tables_1 from List.mem_append_right _ (List.mem_append_left _ (show _ ∈ tables_1_2 from List.mem_of_getElem? (i := 112) (by decide +kernel)))) (by decide +kernel)
theorem w_353 : Cond.instantiable "EnclaveWardenModel" 23 ∈ WS := ws_tbl (show _ ∈ tables_1 from List.mem_append_right _ (List.mem_append_left _ (show _ ∈ tables_1_2 from List.mem_of_getElem? (i := 113) (by decide +kernel)))) (by decide +kernel)
theorem w_354 : Cond.methodLink "EnclaveWardenLaw" 20 ⟨"EnclaveWardenModel", "<init>", "(I)V"⟩ ∈ WS := ws_tbl (show _ ∈ tables_1 from List.mem_append_right _ (List.mem_append_left _ (show _ ∈ tables_1_2 from List.mem_of_getElem? (i := 114) (by decide +kernel)))) (by decide +kernel)
theorem w_355 : Cond.instanceMethod ⟨"EnclaveWardenModel", "<init>", "(I)V"⟩ ∈ WS := ws_tbl (show _ ∈ tables_1 from List.mem_append_right _ (List.mem_append_left _ (show _ ∈ tables_1_2 from List.mem_of_getElem? (i := 115) (by decide +kernel)))) (by decide +kernel)
theorem w_356 : Cond.code ⟨"EnclaveWardenModel", "<init>", "(I)V"⟩ prog_6_method_1_code 3 none ∈ WS := ws_tbl (show _ ∈ tables_1 from List.mem_append_right _ (List.mem_append_left _ (show _ ∈ tables_1_2 from List.mem_of_getElem? (i := 116) rfl))) (by decide +kernel)
theorem rel_first (a1 : Int32) : Rel (sE a1) (sM a1) := by
  refine ⟨⟨rfl, rfl, rfl, rfl, rfl⟩, ⟨fun c hc k hk => ?_, fun c hc => rfl⟩, ⟨rfl, rfl, Or.inl rfl, rfl, rfl⟩, ⟨rfl, rfl, rfl, rfl, rfl⟩, ⟨6, by decide, rfl, rfl, fun q => absurd q (by decide)⟩, fun r hr => ?_, fun e he => ⟨0, by decide, rfl, fun _ => ⟨rfl, rfl, rfl⟩, fun q => absurd rfl q, fun q => absurd rfl q⟩, fun t ht => ⟨0, by decide, rfl⟩⟩
  · rcases (show c = 0 ∨ c = 1 ∨ c = 2 ∨ c = 3 ∨ c = 4 ∨ c = 5 ∨ c = 6 by omega) with rfl | rfl | rfl | rfl | rfl | rfl | rfl <;> rfl
  · have hin : ∀ e, inB (sM a1 3) (sM a1 4) (sM a1 5) e r = false := fun e => rfl
    by_cases h8 : r < 8
    · refine ⟨1, by decide, ?_, fun e he => ⟨fun q => (by rw [hin e] at q; cases q), fun q => (by omega)⟩, rfl, ?_, fun q => absurd q (by decide)⟩
      · show kE r = nI 1
        rcases (show r = 0 ∨ r = 1 ∨ r = 2 ∨ r = 3 ∨ r = 4 ∨ r = 5 ∨ r = 6 ∨ r = 7 by omega) with rfl | rfl | rfl | rfl | rfl | rfl | rfl | rfl <;> decide
      · rw [if_pos (Or.inl rfl)]
        show oM r = 1
        rcases (show r = 0 ∨ r = 1 ∨ r = 2 ∨ r = 3 ∨ r = 4 ∨ r = 5 ∨ r = 6 ∨ r = 7 by omega) with rfl | rfl | rfl | rfl | rfl | rfl | rfl | rfl <;> decide
    · refine ⟨0, by decide, ?_, fun e he => ⟨fun q => (by rw [hin e] at q; cases q), fun q => (by omega)⟩, rfl, ?_, fun q => absurd q (by decide)⟩
      · show kE r = nI 0
        rcases (show r = 8 ∨ r = 9 ∨ r = 10 ∨ r = 11 ∨ r = 12 ∨ r = 13 ∨ r = 14 ∨ r = 15 by omega) with rfl | rfl | rfl | rfl | rfl | rfl | rfl | rfl <;> decide
      · rw [if_neg (by decide)]
        show oM r = 0
        rcases (show r = 8 ∨ r = 9 ∨ r = 10 ∨ r = 11 ∨ r = 12 ∨ r = 13 ∨ r = 14 ∨ r = 15 by omega) with rfl | rfl | rfl | rfl | rfl | rfl | rfl | rfl <;> decide
abbrev y_L_cell : MethodName := ⟨"EnclaveWardenLaw", "cell", "([II)I"⟩
def cellV (L : Nat) (xs : Nat → Int32) : Int32 := if nI L ≤ 0 then 0 else xs (Int32.toNatClampNeg 0)
def Pcell (b L : Nat) (xs : Nat → Int32) : Array Value → State → Prop := va_Pc [.ref b, .int 0] (fun U => va_X b L xs U U.heap ∧ b < U.heap.size)
set_option maxHeartbeats 4000000 in
set_option maxRecDepth 100000 in
theorem M_cell (l : Launch) (b L : Nat) (xs : Nat → Int32) (hL : L ≤ 2561) : Met l y_L_cell (Cond.code y_L_cell method_2_code 2 (some .int) :: WS) { frames := 0, cells := 0, slots := 0, locals := 0 } (Pcell b L xs) (QcRead (cellV L xs)) 0 0 (fun _ => False) := by
  refine Met.ofW (cc := method_2_code) (maxL := 2) (ret := some .int) (by decide) rfl ?_
  intro p e s m args below meth c s₁ B hml hv
  obtain ⟨rfl, hX, hbl⟩ := hv
  have hx := B.exec
  have hb := B.bytes
  have hr := B.returns
  have hlocks := B.notSynchronized
  have hS : va_S (fun _ => False) s.heap s.heap [] := va_S.rf
  have hl := lv_entry ([.ref b, .int 0]) (n := 2) (Nat.le_of_ble_eq_true rfl)
  rw [lg_entry_eq]
  generalize (lg_sl ([.ref b, .int 0]) ++ List.replicate (2 - (lg_sl ([.ref b, .int 0])).length) Slot.unset).toArray = ls at hl ⊢
  have hl : lv_has ls 2 [(0, .ref b), (1, .int 0)] := hl
  refine lv_iload_n hx hb d_L_cell_0 rfl (lv_at hl 1 rfl) ?_
  refine lv_aload_n hx hb d_L_cell_1 rfl (lv_at hl 0 rfl) ?_
  refine va_slen hx hb hX hbl (fun q => q) hS d_L_cell_2 ?_
  refine lv_icmp_ge (tgt := 12) hx hb d_L_cell_3 rfl (fun h => ?_) (fun h => ?_)
  · have e1 : cellV L xs = 0 := if_pos h
    refine lv_iconst (v := 0) hx hb d_L_cell_12 (by decide) ?_
    exact W.iret (v := 0) hx hb hr (fun t ht hW => ⟨by rw [e1], ht⟩) (fun q hq => by cases hq) d_L_cell_13
  · have e1 : cellV L xs = xs (Int32.toNatClampNeg 0) := if_neg h
    have hpos : 0 < L := Nat.pos_of_ne_zero (fun q => h (by rw [q]; decide))
    refine lv_aload_n hx hb d_L_cell_6 rfl (lv_at hl 0 rfl) ?_
    refine lv_iload_n hx hb d_L_cell_7 rfl (lv_at hl 1 rfl) ?_
    refine va_sld hx hb hX hbl (fun q => q) hS (vp_in_nI (n := 0) hpos (by omega)) d_L_cell_8 ?_
    refine lv_goto (tgt := 13) hx hb d_L_cell_9 rfl ?_
    exact W.iret (v := xs (Int32.toNatClampNeg 0)) hx hb hr (fun t ht hW => ⟨by rw [e1], ht⟩) (fun q hq => by cases hq) d_L_cell_13
theorem gwLB {cy : Cond} (h : cy ∈ WS) : GoodIn lw_tbl (cy :: WS) := fun w hw => by
  have h2 : w ∈ WS := by
    rcases List.mem_cons.mp hw with rfl | q
    · exact h
    · exact q
  exact ⟨ws_in h2, ws_good h2⟩
theorem gwLS {cy : Cond} {own : String} {idx : Nat} {y : MethodName} (h1 : Cond.methodLink own idx y ∈ WS) (h2 : Cond.static y ∈ WS) (h4 : Cond.initialized own ∈ WS) (h5 : cy ∈ WS) : GoodIn lw_tbl (wsS own idx y (cy :: WS)) := fun w hw => by
  have hg := gwS (c0 := cy) h1 h2 h4 h5 w hw
  refine ⟨?_, hg.2⟩
  rcases List.mem_cons.mp hg.1 with rfl | q
  · exact ws_in h5
  · exact ws_in q
theorem gz_cell {p : Program} {l : Launch} {e : Env} {s0 : State} {m : MethodId} {args : Array Value} {below : List Frame} {meth : Method} {c : Code} {D : va_G} {dI : Nat → ClassId} {A : Nat → Prop} {nc ns : Nat} {cc : ByteArray} {nL : Nat} {ret : Option FieldType} {ρ : Type} {Q : ρ → va_W → State → Prop} {res : Option (ρ × va_W)} {ls : Array Slot} {rest : List Value} {ws : va_W} (X : CX p s0 m args meth c D vwCl (tyE dI) nwE A cc nL ret lw_tbl R_law) (pc : Nat) {b L : Nat} {xs : Nat → Int32} (hL : L ≤ 2561) (hX : va_X b L xs s0 s0.heap) (hbl : b < s0.heap.size) (hbA : ¬ A b) (hsize : ls.size = nL) (hroom : (rest.map fun v => v.category).sum ≤ 8) (hR : nc + 0 ≤ room_1.cells ∧ ns + 0 ≤ room_1.slots) (d : decode cc pc = .ok (.invokestatic 9, 3)) (kk : GG p l e room_1 s0 m args below meth c D vwCl (tyE dI) A (fun z : va_W => z) nc ns Q res (F0 m (pc + 3) ls (.int (cellV L xs) :: rest)) ws) : GG p l e room_1 s0 m args below meth c D vwCl (tyE dI) A (fun z : va_W => z) nc ns Q res (F0 m pc ls (.int 0 :: .ref b :: rest)) ws := fun r s' hr H locs h1 h2 h3 =>
  W.callR (W.runS (As := [.ref b, .int 0]) (rest := rest) (g := F0 m pc ls (.int 0 :: .ref b :: rest)) X.1 (M_cell l b L xs hL) (cwS 2 X.1.2.2.2.2 (gwLS w_349 w_350 w_0 w_351) rfl rfl rfl (by decide +kernel) ⟨by decide, by decide⟩)
    ⟨fun a U g mk q => ⟨q.1, va_X.moved (u := U) (U := U.calling g mk a) (Vm.Alike.refl U.vm) q.2.1, q.2.2⟩, fun U hU hW => ⟨rfl, by rw [hU]; exact (hX.kept (h3.2.1 b hbl hbA)).moved hW.alike, by rw [hU]; exact Nat.lt_of_lt_of_le hbl h3.1⟩⟩ rfl rfl hsize rfl (lv_room hroom) d hR) (kk r s' hr H locs h1 h2 h3)
theorem gk_astore_n {p : Program} {l : Launch} {e : Env} {s0 : State} {m : MethodId} {args : Array Value} {below : List Frame} {meth : Method} {c : Code} {D : va_G} {dI : Nat → ClassId} {A : Nat → Prop} {nc ns : Nat} {Ts : List Cond} {own : String} {cc : ByteArray} {nL : Nat} {ret : Option FieldType} {ρ : Type} {Q : ρ → va_W → State → Prop} {res : Option (ρ × va_W)} {ls : Array Slot} {rest : List Value} {ws : va_W} (X : CX p s0 m args meth c D vwCl (tyE dI) nwE A cc nL ret Ts own) (pc : Nat) {kk : Fin 4} {i x : Nat} {lv : List (Nat × Value)} (lv' : List (Nat × Value)) (d : decode cc pc = .ok (.astore_n kk, 1)) (hi : (kk : Nat) = i) (h : lv_has ls nL lv) (hn : i < nL) (hl : (i, Value.ref x) :: lv.filter (fun q => !(q.1 == i) && !(q.1 + 1 == i && q.2.category == 2)) = lv') (k : ∀ (ls : Array Slot), lv_has ls nL lv' → GG p l e room_1 s0 m args below meth c D vwCl (tyE dI) A (fun z : va_W => z) nc ns Q res (F0 m (pc + 1) ls rest) ws) : GG p l e room_1 s0 m args below meth c D vwCl (tyE dI) A (fun z : va_W => z) nc ns Q res (F0 m pc ls (.ref x :: rest)) ws := fun r s' hr H locs h1 h2 h3 => lv_astore_n X.1.1 X.1.2.1 d hi h hn hl (fun ls' hls => k ls' hls r s' hr H locs h1 h2 h3)
theorem uwL_W : ∀ x ∈ u_ws R_W T_W 10, x ∈ lw_tbl := fun x hx => by
  rcases List.mem_cons.mp (uw_W (c0 := Cond.initialized "EnclaveWarden") x hx) with rfl | q
  · exact ws_in w_1
  · exact ws_in q
theorem uwL_V : ∀ x ∈ u_ws R_V T_V 4, x ∈ lw_tbl := fun x hx => by
  rcases List.mem_cons.mp (uw_V (c0 := Cond.initialized "EnclaveWarden") x hx) with rfl | q
  · exact ws_in w_1
  · exact ws_in q
theorem uwL_T : ∀ x ∈ u_ws R_T T_T 3, x ∈ lw_tbl := fun x hx => by
  rcases List.mem_cons.mp (uw_T (c0 := Cond.initialized "EnclaveWarden") x hx) with rfl | q
  · exact ws_in w_1
  · exact ws_in q
theorem uwL_C : ∀ x ∈ u_ws R_C T_C 2, x ∈ lw_tbl := fun x hx => by
  rcases List.mem_cons.mp (uw_C (c0 := Cond.initialized "EnclaveWarden") x hx) with rfl | q
  · exact ws_in w_1
  · exact ws_in q
theorem uwL_M : ∀ x ∈ u_ws R_M T_M 23, x ∈ lw_tbl := fun x hx => by
  rcases List.mem_cons.mp (uw_M (c0 := Cond.initialized "EnclaveWarden") x hx) with rfl | q
  · exact ws_in w_1
  · exact ws_in q
theorem nw_tbl {args : Array Value} {s : State} (hts : ∀ w ∈ lw_tbl, w.before args s = true) : ∀ x ∈ nwE, va_Nw x s := by
  intro x hx
  unfold nwE at hx
  simp only [List.mem_cons, List.not_mem_nil, or_false] at hx
  rcases hx with rfl | rfl | rfl | rfl | rfl | rfl | rfl | rfl | rfl | rfl | rfl | rfl | rfl | rfl | rfl | rfl | rfl | rfl | rfl | rfl
  · exact va_Nw.of rfl (hts _ (List.mem_append_right _ (show _ ∈ tables_1 from List.mem_append_left _ (show _ ∈ tables_1_1 from List.mem_of_getElem? (i := 17) (by decide +kernel)))))
  · exact va_Nw.of rfl (hts _ (List.mem_append_right _ (show _ ∈ tables_1 from List.mem_append_left _ (show _ ∈ tables_1_1 from List.mem_of_getElem? (i := 24) (by decide +kernel)))))
  · exact va_Nw.of rfl (hts _ (List.mem_append_right _ (show _ ∈ tables_1 from List.mem_append_left _ (show _ ∈ tables_1_1 from List.mem_of_getElem? (i := 30) (by decide +kernel)))))
  · exact va_Nw.of rfl (hts _ (List.mem_append_right _ (show _ ∈ tables_1 from List.mem_append_left _ (show _ ∈ tables_1_1 from List.mem_of_getElem? (i := 36) (by decide +kernel)))))
  · exact va_Nw.of rfl (hts _ (List.mem_append_right _ (show _ ∈ tables_1 from List.mem_append_left _ (show _ ∈ tables_1_1 from List.mem_of_getElem? (i := 44) (by decide +kernel)))))
  · exact va_Nw.of rfl (hts _ (List.mem_append_right _ (show _ ∈ tables_1 from List.mem_append_left _ (show _ ∈ tables_1_1 from List.mem_of_getElem? (i := 46) (by decide +kernel)))))
  · exact va_Nw.of rfl (hts _ (List.mem_append_right _ (show _ ∈ tables_1 from List.mem_append_left _ (show _ ∈ tables_1_1 from List.mem_of_getElem? (i := 47) (by decide +kernel)))))
  · exact va_Nw.of rfl (hts _ (List.mem_append_right _ (show _ ∈ tables_1 from List.mem_append_left _ (show _ ∈ tables_1_1 from List.mem_of_getElem? (i := 49) (by decide +kernel)))))
  · exact va_Nw.of rfl (hts _ (List.mem_append_right _ (show _ ∈ tables_1 from List.mem_append_left _ (show _ ∈ tables_1_1 from List.mem_of_getElem? (i := 62) (by decide +kernel)))))
  · exact va_Nw.of rfl (hts _ (List.mem_append_right _ (show _ ∈ tables_1 from List.mem_append_left _ (show _ ∈ tables_1_1 from List.mem_of_getElem? (i := 64) (by decide +kernel)))))
  · exact va_Nw.of rfl (hts _ (List.mem_append_right _ (show _ ∈ tables_1 from List.mem_append_left _ (show _ ∈ tables_1_1 from List.mem_of_getElem? (i := 66) (by decide +kernel)))))
  · exact va_Nw.of rfl (hts _ (List.mem_append_right _ (show _ ∈ tables_1 from List.mem_append_left _ (show _ ∈ tables_1_1 from List.mem_of_getElem? (i := 68) (by decide +kernel)))))
  · exact va_Nw.of rfl (hts _ (List.mem_append_right _ (show _ ∈ tables_1 from List.mem_append_left _ (show _ ∈ tables_1_1 from List.mem_of_getElem? (i := 79) (by decide +kernel)))))
  · exact va_Nw.of rfl (hts _ (List.mem_append_right _ (show _ ∈ tables_1 from List.mem_append_left _ (show _ ∈ tables_1_1 from List.mem_of_getElem? (i := 134) (by decide +kernel)))))
  · exact va_Nw.of rfl (hts _ (List.mem_append_right _ (show _ ∈ tables_1 from List.mem_append_left _ (show _ ∈ tables_1_1 from List.mem_of_getElem? (i := 142) (by decide +kernel)))))
  · exact va_Nw.of rfl (hts _ (List.mem_append_right _ (show _ ∈ tables_1 from List.mem_append_left _ (show _ ∈ tables_1_1 from List.mem_of_getElem? (i := 181) (by decide +kernel)))))
  · exact va_Nw.of rfl (hts _ (List.mem_append_right _ (show _ ∈ tables_1 from List.mem_append_left _ (show _ ∈ tables_1_1 from List.mem_of_getElem? (i := 182) (by decide +kernel)))))
  · exact va_Nw.of rfl (hts _ (List.mem_append_right _ (show _ ∈ tables_1 from List.mem_append_left _ (show _ ∈ tables_1_1 from List.mem_of_getElem? (i := 186) (by decide +kernel)))))
  · exact va_Nw.of rfl (hts _ (List.mem_append_right _ (show _ ∈ tables_1 from List.mem_append_left _ (show _ ∈ tables_1_1 from List.mem_of_getElem? (i := 201) (by decide +kernel)))))
  · exact va_Nw.of rfl (hts _ (List.mem_append_right _ (show _ ∈ tables_1 from List.mem_append_left _ (show _ ∈ tables_1_1 from List.mem_of_getElem? (i := 228) (by decide +kernel)))))
theorem ao_tbl {args : Array Value} {s : State} (hts : ∀ w ∈ lw_tbl, w.before args s = true) : aoE s := ⟨va_AO.of (hts (Cond.arrayOver (.object "EnclaveWarden$Enclave")) (List.mem_append_right _ (show _ ∈ tables_1 from List.mem_append_left _ (show _ ∈ tables_1_1 from List.mem_of_getElem? (i := 15) (by decide +kernel))))), va_AO.of (hts (Cond.arrayOver (.object "EnclaveWarden$EnclaveThread")) (List.mem_append_right _ (show _ ∈ tables_1 from List.mem_append_left _ (show _ ∈ tables_1_1 from List.mem_of_getElem? (i := 22) (by decide +kernel)))))⟩
theorem k_tbl {args : Array Value} {s : State} (hts : ∀ w ∈ lw_tbl, w.before args s = true) (ha : aoE s) : ∃ (D : va_G) (dI : Nat → ClassId), va_K D vwCl (tyE dI) s := by
  obtain ⟨c0, i0, k0⟩ := u_known (C := R_W) (T := T_W) (N := 10) hts uwL_W (hts _ (ws_in w_7))
  obtain ⟨c1, i1, k1⟩ := u_known (C := R_V) (T := T_V) (N := 4) hts uwL_V (hts _ (ws_in w_16))
  obtain ⟨c2, i2, k2⟩ := u_known (C := R_T) (T := T_T) (N := 3) hts uwL_T (hts _ (ws_in w_23))
  obtain ⟨c3, i3, k3⟩ := u_known (C := R_C) (T := T_C) (N := 2) hts uwL_C (hts _ (ws_in w_29))
  obtain ⟨c4, i4, k4⟩ := u_known (C := R_M) (T := T_M) (N := 23) hts uwL_M (hts _ (ws_in w_353))
  obtain ⟨a0, g0, m0, f0, t0, e0⟩ := Cond.arrayClass_spec (hts (Cond.arrayClass .int) (ws_in w_42))
  obtain ⟨a1, g1, m1, f1, t1, e1⟩ := Cond.arrayClass_spec (hts (Cond.arrayClass .boolean) (ws_in w_428))
  obtain ⟨p2, a2, g2, f2, j2, t2, e2, n2⟩ := Cond.arrayOver_spec (va_AO.use (A := args) ha.1)
  obtain ⟨p3, a3, g3, f3, j3, t3, e3, n3⟩ := Cond.arrayOver_spec (va_AO.use (A := args) ha.2)
  refine ⟨(fun k => match k with | 0 => c0 | 1 => c1 | 2 => c2 | 3 => c3 | _ => c4, fun k => match k with | 0 => i0 | 1 => i1 | 2 => i2 | 3 => i3 | _ => i4), (fun k => match k with | 0 => a0 | 1 => a1 | 2 => a2 | _ => a3), fun c q hq => ?_, fun k q hk => ?_⟩
  · match c, hq with
    | 0, hq => cases hq; exact k0
    | 1, hq => cases hq; exact k1
    | 2, hq => cases hq; exact k2
    | 3, hq => cases hq; exact k3
    | 4, hq => cases hq; exact k4
    | n + 5, hq => cases hq
  · match k, hk with
    | 0, hk => cases hk; exact ⟨fun n z => ⟨fun k h => (by cases h), g0, t0, m0, e0⟩, f0⟩
    | 1, hk => cases hk; exact ⟨fun n z => ⟨fun k h => (by cases h), g1, t1, m1, e1⟩, f1⟩
    | 2, hk => cases hk; exact ⟨fun n z => ⟨fun k h => (by cases h), g2, t2, p2, e2⟩, g2, p2, t2, e2, f2, n2⟩
    | 3, hk => cases hk; exact ⟨fun n z => ⟨fun k h => (by cases h), g3, t3, p3, e3⟩, g3, p3, t3, e3, f3, n3⟩
    | n + 4, hk => cases hk
set_option maxHeartbeats 8000000 in
set_option maxRecDepth 100000 in
/-- from the entry, for every script of at most 2561 ints, the law comes to its end with true -/
theorem whole_start {p : Program} {e : Env} {s : State} {m : MethodId} {below : List Frame} {meth : Method} {c : Code} (l : Launch) {b L : Nat} {xs : Nat → Int32} (hL : L ≤ 2561) (C0 : lw_At p s m meth c b L xs) : W p l e room_1 s m #[Value.ref b] below meth c s.heap [] 0 0 (lw_Z below #[Value.ref b] s) (entryFrame m ([Value.ref b] : List Value).toArray 4) := by
  obtain ⟨hx, hb, hr, hml, hown, hts, hX, hbl, hlocks, -⟩ := C0
  have hao := ao_tbl hts
  obtain ⟨D, dI, hK⟩ := k_tbl hts hao
  have hN := nw_tbl hts
  have hbA : ¬ s.heap.size ≤ b := by omega
  have X : CX p s m #[Value.ref b] meth c D vwCl (tyE dI) nwE (fun z => s.heap.size ≤ z) code 4 ret lw_tbl R_law := ⟨⟨hx, hb, hml, hown, hts⟩, hr, hlocks, hK, fun q h => h, hN⟩
  have hl := lv_entry ([.ref b]) (n := 4) (Nat.le_of_ble_eq_true rfl)
  rw [lg_entry_eq]
  generalize (lg_sl ([.ref b]) ++ List.replicate (4 - (lg_sl ([.ref b])).length) Slot.unset).toArray = ls at hl ⊢
  have hl : lv_has ls 4 [(0, .ref b)] := hl
  suffices hG : GG p l e room_1 s m #[Value.ref b] below meth c D vwCl (tyE dI) (fun z => s.heap.size ≤ z) (fun z : va_W => z) 0 0 (fun (_ : Unit) (_ : va_W) => lw_Z below #[Value.ref b] s) (some ((), [])) (F0 m 0 ls []) [] from hG () [] rfl s.heap [] (fun k q hk => (by cases hk)) ⟨fun i j x y hi => (by cases hi), fun k q hk => (by cases hk)⟩ va_S.rf
  refine gz_new X 0 (ci := 0) [.int 0, .null, .null, .null, .null, .null, .int 0, .int 0, .int 0, .int 0] uwL_W ty_W tyok_W (ws_in w_6) (ws_in w_7) (ws_in w_1) rfl (fun j hj => by rcases (show j = 0 ∨ j = 1 ∨ j = 2 ∨ j = 3 ∨ j = 4 ∨ j = 5 ∨ j = 6 ∨ j = 7 ∨ j = 8 ∨ j = 9 by omega) with rfl | rfl | rfl | rfl | rfl | rfl | rfl | rfl | rfl | rfl <;> rfl) (by decide) (by decide) d_L_law_0 (fun q0 => ?_)
  refine gz_cnt 1 10 rfl rfl ?_
  refine gg_dup X 3 d_L_law_3 rfl ?_
  refine gg_aload_n X 4 d_L_law_4 rfl (lv_at hl 0 rfl) ?_
  refine gg_iconst X 5 (0 : Int32) d_L_law_5 (by decide) ?_
  refine gz_cell X 6 hL hX hbl hbA hl.1 (Nat.le_of_ble_eq_true rfl) (by decide) d_L_law_6 ?_
  refine gz_ctor X 9 (w1 := []) [.int (cellV L xs)] [.ref q0] hao (fun sz => M_W_init l D dI q0 (cellV L xs) sz) (cwI 1 X.1.2.2.2.2 (gwLB w_10) rfl rfl rfl (X.1.2.2.2.2 _ (ws_in w_1)) (X.1.2.2.2.2 _ (ws_in w_8)) (X.1.2.2.2.2 _ (ws_in w_9)) rfl (by decide +kernel) ⟨by decide, by decide⟩) rfl hl.1 rfl (Nat.le_of_ble_eq_true rfl) (by decide) d_L_law_9 (fun w' hw' => ?_)
  obtain ⟨ad, had, rfl⟩ := hw'
  subst had
  refine gz_eq (wE dI ad (sE (cellV L xs))) rfl ?_
  refine gz_cnt 31 396 rfl rfl ?_
  refine gk_astore_n X 12 [(1, .ref (ad 0)), (0, .ref b)] d_L_law_12 rfl hl (by decide) rfl (fun ls hl => ?_)
  refine gz_new X 13 (ci := 4) [.int 0, .null, .null, .null, .null, .null, .null, .null, .null, .null, .null, .null, .null, .null, .int 0, .int 0, .int 0, .int 0, .int 0, .int 0, .int 0, .int 0, .int 0] uwL_M ty_M tyok_M (ws_in w_352) (ws_in w_353) (ws_in w_5) rfl (fun j hj => by rcases (show j = 0 ∨ j = 1 ∨ j = 2 ∨ j = 3 ∨ j = 4 ∨ j = 5 ∨ j = 6 ∨ j = 7 ∨ j = 8 ∨ j = 9 ∨ j = 10 ∨ j = 11 ∨ j = 12 ∨ j = 13 ∨ j = 14 ∨ j = 15 ∨ j = 16 ∨ j = 17 ∨ j = 18 ∨ j = 19 ∨ j = 20 ∨ j = 21 ∨ j = 22 by omega) with rfl | rfl | rfl | rfl | rfl | rfl | rfl | rfl | rfl | rfl | rfl | rfl | rfl | rfl | rfl | rfl | rfl | rfl | rfl | rfl | rfl | rfl | rfl <;> rfl) (by decide) (by decide) d_L_law_13 (fun q1 => ?_)
  refine gz_cnt 32 419 rfl rfl ?_
  refine gg_dup X 16 d_L_law_16 rfl ?_
  refine gg_aload_n X 17 d_L_law_17 rfl (lv_at hl 1 rfl) ?_
  refine gg_iconst X 18 (0 : Int32) d_L_law_18 (by decide) ?_
  refine gz_cell X 19 hL hX hbl hbA hl.1 (Nat.le_of_ble_eq_true rfl) (by decide) d_L_law_19 ?_
  refine gz_ctor X 22 (w1 := wE dI ad (sE (cellV L xs))) [.int (cellV L xs)] [.ref q1] hao (fun sz => M_M_init l D dI q1 (cellV L xs) sz) (cwI 1 X.1.2.2.2.2 (gwLB w_356) rfl rfl rfl (X.1.2.2.2.2 _ (ws_in w_5)) (X.1.2.2.2.2 _ (ws_in w_354)) (X.1.2.2.2.2 _ (ws_in w_355)) rfl (by decide +kernel) ⟨by decide, by decide⟩) rfl hl.1 rfl (Nat.le_of_ble_eq_true rfl) (by decide) d_L_law_22 (fun w' hw' => ?_)
  obtain ⟨ad2, had2, rfl⟩ := hw'
  subst had2
  refine gz_cnt 45 1277 rfl rfl ?_
  refine gk_astore_n X 25 [(2, .ref (ad2 0)), (1, .ref (ad 0)), (0, .ref b)] d_L_law_25 rfl hl (by decide) rfl (fun ls hl => ?_)
  refine gg_iconst X 26 (1 : Int32) d_L_law_26 (by decide) ?_
  refine gk_istore_n X 27 [(3, .int (1 : Int32)), (2, .ref (ad2 0)), (1, .ref (ad 0)), (0, .ref b)] d_L_law_27 rfl hl (by decide) rfl (fun ls hl => ?_)
  intro r s' hr' H locs h1 h2 h3
  obtain ⟨q, hq⟩ := law_loop (xs := xs) hL 600 1 600 _ _ (rel_first (cellV L xs)) (by decide) (by omega) (by decide)
  exact t_L (ad := ad) (ad2 := ad2) X hX hbl hbA (600 + 1) (nI 1) (sE (cellV L xs), sM (cellV L xs)) ls (lv_sub hl [3, 2, 1, 0] rfl) 1 q hq H locs h1 h2 h3
