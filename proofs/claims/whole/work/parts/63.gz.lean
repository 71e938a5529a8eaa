def aoE (U : State) : Prop := va_AO "EnclaveWarden$Enclave" U ∧ va_AO "EnclaveWarden$EnclaveThread" U
theorem aoE.moved {u U : State} (hvm : u.vm.Alike U.vm) (h : aoE u) : aoE U := ⟨h.1.moved hvm, h.2.moved hvm⟩
def Pz (D : va_G) (dI : Nat → ClassId) (sz : Nat) (ws : va_W) (av : List Value) : Array Value → State → Prop := va_Pc av (fun U => U.heap.size = sz ∧ va_P D vwCl ws U.heap ∧ va_K D vwCl (tyE dI) U ∧ va_D (fun _ => True) ws ∧ (∀ x ∈ nwE, va_Nw x U) ∧ aoE U)
def Qz (D : va_G) (dI : Nat → ClassId) (A : Nat → Prop) (Wp : va_W → Prop) : Array Value → State → Outcome → State → Prop := fun _ st oc t => oc = .returned none ∧ ∃ w', Wp w' ∧ va_P D vwCl w' t.heap ∧ va_K D vwCl (tyE dI) t ∧ va_D A w' ∧ va_F A st t
theorem pz_blind {D : va_G} {dI : Nat → ClassId} {sz : Nat} {ws : va_W} {av : List Value} : FrameBlind (Pz D dI sz ws av) := by
  intro a U g mk q
  obtain ⟨q0, q1, qP, qK, qD, qN, qA⟩ := q
  have hb := px_blind (w := fun z : va_W => z) (D := D) (cl := vwCl) (tys := tyE dI) (nw := nwE) (s := ws) (sz := sz) (av := av) nwOk_E a U g mk ⟨q0, q1, qP, qK, qD, qN⟩
  obtain ⟨r0, r1, rP, rK, rD, rN⟩ := hb
  exact ⟨r0, r1, rP, rK, rD, rN, aoE.moved (u := U) (U := U.calling g mk a) (Vm.Alike.refl U.vm) qA⟩
section GZS
variable {p : Program} {l : Launch} {e : Env} {R : Room} {s0 : State} {m : MethodId} {args : Array Value} {below : List Frame} {meth : Method} {c : Code} {D : va_G} {dI : Nat → ClassId} {A : Nat → Prop} {nc ns : Nat} {cc : ByteArray} {nL : Nat} {ret : Option FieldType} {Ts : List Cond} {own : String} {ρ : Type} {Q : ρ → va_W → State → Prop} {res : Option (ρ × va_W)} {ls : Array Slot} {rest : List Value} {ws : va_W}
theorem gz_eq {g : JFrame} (ws2 : va_W) (h : ws = ws2) (k : GG p l e R s0 m args below meth c D vwCl (tyE dI) A (fun z : va_W => z) nc ns Q res (g) ws2) : GG p l e R s0 m args below meth c D vwCl (tyE dI) A (fun z : va_W => z) nc ns Q res (g) ws := h ▸ k
theorem gz_cnt {g : JFrame} (k n : Nat) (h1 : nc = k) (h2 : ns = n) (kk : GG p l e R s0 m args below meth c D vwCl (tyE dI) A (fun z : va_W => z) k n Q res (g) ws) : GG p l e R s0 m args below meth c D vwCl (tyE dI) A (fun z : va_W => z) nc ns Q res (g) ws := by subst h1; subst h2; exact kk
theorem gz_obj (X : CX p s0 m args meth c D vwCl (tyE dI) nwE A cc nL ret Ts own) (pc : Nat) {idx a : Nat} (hl : Cond.methodLink own idx objectInit ∈ Ts) (hi : Cond.instanceMethod objectInit ∈ Ts) (hc : Cond.code objectInit ⟨#[0xb1]⟩ 1 none ∈ Ts) (hsize : ls.size = nL) (d : decode cc pc = .ok (.invokespecial idx, 3)) (hf : 1 ≤ R.frames) (hlo : (rest.map fun v => v.category).sum + 12 ≤ R.locals) (kk : GG p l e R s0 m args below meth c D vwCl (tyE dI) A (fun z : va_W => z) nc ns Q res (F0 m (pc + 3) ls rest) ws) : GG p l e R s0 m args below meth c D vwCl (tyE dI) A (fun z : va_W => z) nc ns Q res (F0 m pc ls (.ref a :: rest)) ws := fun r s' hr H locs h1 h2 h3 => W.objInit X.1.1 X.1.2.1 X.1.2.2.2.1 (X.1.2.2.2.2 _ hl) (X.1.2.2.2.2 _ hi) (X.1.2.2.2.2 _ hc) rfl (hsize.trans X.1.2.2.1.symm) rfl d hf (by show 2 * 0 + (rest.map fun v => v.category).sum + 12 ≤ R.locals; omega) (kk r s' hr H locs h1 h2 h3)
theorem gz_put (X : CX p s0 m args meth c D vwCl (tyE dI) nwE A cc nL ret Ts own) (pc : Nat) (q0 k : Nat) {a ci N index : Nat} {C : String} {T : u_T} {fs : List Value} {v : Value} (ty : FieldType) (ws2 : va_W) (hin : ∀ x ∈ u_ws C T N, x ∈ Ts) (ty0 : Nat → FieldType) (hty : ∀ k, k < N → parseFieldDescriptor (T k).2.2.1 = some (ty0 k)) (hnm : ∀ a, a < N → ∀ b, b < N → a ≠ b → (T a).2.1 ≠ (T b).2.1) (he : ws[q0]? = some (a, .inr (ci, fs))) (hc : vwCl[ci]? = some (C, T, N)) (hk : k < N) (hfin : (T k).2.2.2 = false) (hd : parseFieldDescriptor (T k).2.2.1 = some ty) (hl0 : k < fs.length) (hlink : Cond.fieldLink own index (T k).1 (T k).2.1 (T k).2.2.1 ∈ Ts ∨ ∃ host, Cond.fieldLinkNest own index (T k).1 (T k).2.1 (T k).2.2.1 host ∈ nwE) (hset : ws.set q0 (a, .inr (ci, fs.set k v)) = ws2) (hn : narrow ty v = v) (hfit : fits ty v = true) (d : decode cc pc = .ok (.putfield index, 3)) (kk : GG p l e R s0 m args below meth c D vwCl (tyE dI) A (fun z : va_W => z) nc ns Q res (F0 m (pc + 3) ls rest) ws2) : GG p l e R s0 m args below meth c D vwCl (tyE dI) A (fun z : va_W => z) nc ns Q res (F0 m pc ls (v :: .ref a :: rest)) ws := by
  intro r s' hr H locs h1 h2 h3
  subst hset
  rcases hlink with hl | ⟨host, hl⟩
  · exact va_put X.1.1 X.1.2.1 X.1.2.2.2.2 hin ty0 hty hnm X.1.2.2.2.1 X.2.2.2.1 h1 h2 h3 q0 he hc k hk (X.1.2.2.2.2 _ hl) (fun _ h => h) hfin hd hn hfit hl0 d (fun H1 locs1 g1 g2 g3 => kk r s' hr H1 locs1 g1 g2 g3)
  · exact va_putN X.1.1 X.1.2.1 X.1.2.2.2.2 hin ty0 hty hnm X.1.2.2.2.1 X.2.2.2.1 h1 h2 h3 q0 he hc k hk (va_Nw.use rfl (X.2.2.2.2.2 _ hl)) (fun _ h => h) hfin hd hn hfit hl0 d (fun H1 locs1 g1 g2 g3 => kk r s' hr H1 locs1 g1 g2 g3)
theorem gz_putF (X : CX p s0 m args meth c D vwCl (tyE dI) nwE A cc nL ret Ts own) (pc : Nat) (q0 k : Nat) {a ci N index : Nat} {C : String} {T : u_T} {fs : List Value} {v : Value} (ty : FieldType) (ws2 : va_W) (hin : ∀ x ∈ u_ws C T N, x ∈ Ts) (ty0 : Nat → FieldType) (hty : ∀ k, k < N → parseFieldDescriptor (T k).2.2.1 = some (ty0 k)) (hnm : ∀ a, a < N → ∀ b, b < N → a ≠ b → (T a).2.1 ≠ (T b).2.1) (he : ws[q0]? = some (a, .inr (ci, fs))) (hc : vwCl[ci]? = some (C, T, N)) (hk : k < N) (hfin : (T k).2.2.2 = true) (hin2 : meth.name = "<init>") (hdecl : (T k).1 = own) (hd : parseFieldDescriptor (T k).2.2.1 = some ty) (hl0 : k < fs.length) (hl : Cond.fieldLink own index (T k).1 (T k).2.1 (T k).2.2.1 ∈ Ts) (hset : ws.set q0 (a, .inr (ci, fs.set k v)) = ws2) (hn : narrow ty v = v) (hfit : fits ty v = true) (d : decode cc pc = .ok (.putfield index, 3)) (kk : GG p l e R s0 m args below meth c D vwCl (tyE dI) A (fun z : va_W => z) nc ns Q res (F0 m (pc + 3) ls rest) ws2) : GG p l e R s0 m args below meth c D vwCl (tyE dI) A (fun z : va_W => z) nc ns Q res (F0 m pc ls (v :: .ref a :: rest)) ws := by
  intro r s' hr H locs h1 h2 h3
  subst hset
  exact va_putF X.1.1 X.1.2.1 X.1.2.2.2.2 hin ty0 hty hnm X.1.2.2.2.1 X.2.2.2.1 h1 h2 h3 q0 he hc k hk (X.1.2.2.2.2 _ hl) (fun _ h => h) hfin hin2 hdecl hd hn hfit hl0 d (fun H1 locs1 g1 g2 g3 => kk r s' hr H1 locs1 g1 g2 g3)
theorem gz_newi (X : CX p s0 m args meth c D vwCl (tyE dI) nwE A cc nL ret Ts own) (pc : Nat) {n : Int32} (N' : Nat) (harr : Cond.arrayClass .int ∈ Ts) (hn : ¬ n < 0) (hN : n.toNatClampNeg = N') (hby : N' * componentBytes .int ≤ 536870912) (hcells : nc + 1 ≤ R.cells) (hslots : ns + N' ≤ R.slots) (d : decode cc pc = .ok (.newarray .int, 2)) (kk : ∀ q, GG p l e R s0 m args below meth c D vwCl (tyE dI) A (fun z : va_W => z) (nc + 1) (ns + N') Q res (F0 m (pc + 2) ls (.ref q :: rest)) (ws ++ [(q, .inl (dI 0, N', .inl (fun _ => 0)))])) : GG p l e R s0 m args below meth c D vwCl (tyE dI) A (fun z : va_W => z) nc ns Q res (F0 m pc ls (.int n :: rest)) ws := by
  intro r s' hr H locs h1 h2 h3
  refine va_newa (atype := .int) (ty := .int) (a0 := (N', .inl (fun _ => 0))) X.1.1 X.1.2.1 (X.1.2.2.2.2 _ harr) rfl X.2.2.2.1 h1 h2 h3 X.2.2.2.2.1 (fun cA => rfl) hn hN hby hcells hslots d (fun q cA H1 kK kP kD kS => ?_)
  have h0 := (X.2.2.2.1.2 0 _ rfl).2
  have h4 := (kK.2 4 (cA, .int) rfl).2
  have e : cA = dI 0 := Option.some.inj ((show s0.vm.findClass _ = some cA from h4).symm.trans h0)
  subst e
  exact kk q r s' hr H1 locs kP kD kS
theorem gz_newz (X : CX p s0 m args meth c D vwCl (tyE dI) nwE A cc nL ret Ts own) (pc : Nat) {n : Int32} (N' : Nat) (harr : Cond.arrayClass .boolean ∈ Ts) (hn : ¬ n < 0) (hN : n.toNatClampNeg = N') (hby : N' * componentBytes .boolean ≤ 536870912) (hcells : nc + 1 ≤ R.cells) (hslots : ns + N' ≤ R.slots) (d : decode cc pc = .ok (.newarray .boolean, 2)) (kk : ∀ q, GG p l e R s0 m args below meth c D vwCl (tyE dI) A (fun z : va_W => z) (nc + 1) (ns + N') Q res (F0 m (pc + 2) ls (.ref q :: rest)) (ws ++ [(q, .inl (dI 1, N', .inl (fun _ => 0)))])) : GG p l e R s0 m args below meth c D vwCl (tyE dI) A (fun z : va_W => z) nc ns Q res (F0 m pc ls (.int n :: rest)) ws := by
  intro r s' hr H locs h1 h2 h3
  refine va_newa (atype := .boolean) (ty := .boolean) (a0 := (N', .inl (fun _ => 0))) X.1.1 X.1.2.1 (X.1.2.2.2.2 _ harr) rfl X.2.2.2.1 h1 h2 h3 X.2.2.2.2.1 (fun cA => rfl) hn hN hby hcells hslots d (fun q cA H1 kK kP kD kS => ?_)
  have h0 := (X.2.2.2.1.2 1 _ rfl).2
  have h4 := (kK.2 4 (cA, .boolean) rfl).2
  have e : cA = dI 1 := Option.some.inj ((show s0.vm.findClass _ = some cA from h4).symm.trans h0)
  subst e
  exact kk q r s' hr H1 locs kP kD kS
theorem gz_newq (X : CX p s0 m args meth c D vwCl (tyE dI) nwE A cc nL ret Ts own) (pc : Nat) {n : Int32} {index : Nat} {Cn : String} (t0 N' : Nat) (ht : (tyE dI)[t0]? = some (dI t0, .object Cn)) (hcl : Cond.classLink own index Cn ∈ Ts) (hover : va_AO Cn s0) (hn : ¬ n < 0) (hN : n.toNatClampNeg = N') (hby : N' * 4 ≤ 536870912) (hcells : nc + 1 ≤ R.cells) (hslots : ns + N' ≤ R.slots) (d : decode cc pc = .ok (.anewarray index, 3)) (kk : ∀ q, GG p l e R s0 m args below meth c D vwCl (tyE dI) A (fun z : va_W => z) (nc + 1) (ns + N') Q res (F0 m (pc + 3) ls (.ref q :: rest)) (ws ++ [(q, .inl (dI t0, N', .inr (.inr (.inr (.inr (fun _ => none))))))])) : GG p l e R s0 m args below meth c D vwCl (tyE dI) A (fun z : va_W => z) nc ns Q res (F0 m pc ls (.int n :: rest)) ws := by
  intro r s' hr H locs h1 h2 h3
  refine va_newq X.1.1 X.1.2.1 X.1.2.2.2.1 (X.1.2.2.2.2 _ hcl) hover X.2.2.2.1 h1 h2 h3 X.2.2.2.2.1 hn hN hby hcells hslots d (fun q cA H1 kK kP kD kS => ?_)
  obtain ⟨kA, comp, -, -, -, h0⟩ := (X.2.2.2.1.2 t0 _ ht).2
  obtain ⟨kA2, comp2, -, -, -, h4⟩ := (kK.2 4 (cA, .object Cn) rfl).2
  have e : cA = dI t0 := Option.some.inj (h4.symm.trans h0)
  subst e
  exact kk q r s' hr H1 locs kP kD kS
theorem gz_new (X : CX p s0 m args meth c D vwCl (tyE dI) nwE A cc nL ret Ts own) (pc : Nat) {index N ci : Nat} {C : String} {T : u_T} (fs : List Value) (hin : ∀ x ∈ u_ws C T N, x ∈ Ts) (ty : Nat → FieldType) (hty : ∀ k, k < N → parseFieldDescriptor (T k).2.2.1 = some (ty k)) (hcl : Cond.classLink own index C ∈ Ts) (hinst : Cond.instantiable C N ∈ Ts) (hini : Cond.initialized C ∈ Ts) (hc : vwCl[ci]? = some (C, T, N)) (hfs : ∀ j, j < N → defaultValue (ty j) = vp_V fs j) (hcells : nc + 1 ≤ R.cells) (hslots : ns + N ≤ R.slots) (d : decode cc pc = .ok (.new index, 3)) (kk : ∀ q, GG p l e R s0 m args below meth c D vwCl (tyE dI) A (fun z : va_W => z) (nc + 1) (ns + N) Q res (F0 m (pc + 3) ls (.ref q :: rest)) (ws ++ [(q, .inr (ci, fs))])) : GG p l e R s0 m args below meth c D vwCl (tyE dI) A (fun z : va_W => z) nc ns Q res (F0 m pc ls rest) ws := fun r s' hr H locs h1 h2 h3 => va_new X.1.1 X.1.2.1 X.1.2.2.2.2 hin ty hty X.1.2.2.2.1 (X.1.2.2.2.2 _ hcl) (X.1.2.2.2.2 _ hinst) (X.1.2.2.2.2 _ hini) X.2.2.2.1 h1 h2 h3 X.2.2.2.2.1 hc hfs hcells hslots d (fun q H1 kP kD kS => kk q r s' hr H1 locs kP kD kS)
theorem gz_aast (X : CX p s0 m args meth c D vwCl (tyE dI) nwE A cc nL ret Ts own) (pc : Nat) (q0 t0 qk ci : Nat) {a n v : Nat} {cA : ClassId} {r0 : vw_C} {vs : List Value} {f : Nat → Option Nat} {i : Int32} (ws2 : va_W) (ha : ws[q0]? = some (a, .inl (cA, n, .inr (.inr (.inr (.inr f)))))) (ht : (tyE dI)[t0]? = some (cA, .object r0.1)) (hv : ws[qk]? = some (v, .inr (ci, vs))) (hc : vwCl[ci]? = some r0) (hin : vp_in i n) (hset : ws.set q0 (a, .inl (cA, n, .inr (.inr (.inr (.inr (va_up f i.toNatClampNeg (some v))))))) = ws2) (d : decode cc pc = .ok (.aastore, 1)) (kk : GG p l e R s0 m args below meth c D vwCl (tyE dI) A (fun z : va_W => z) nc ns Q res (F0 m (pc + 1) ls rest) ws2) : GG p l e R s0 m args below meth c D vwCl (tyE dI) A (fun z : va_W => z) nc ns Q res (F0 m pc ls (.ref v :: .int i :: .ref a :: rest)) ws := by
  intro r s' hr H locs h1 h2 h3
  subst hset
  exact va_astq X.1.1 X.1.2.1 X.2.2.2.1 h1 h2 h3 q0 t0 qk ci ha ht hv hc hin d (fun H1 locs1 g1 g2 g3 => kk r s' hr H1 locs1 g1 g2 g3)
theorem gz_iast (X : CX p s0 m args meth c D vwCl (tyE dI) nwE A cc nL ret Ts own) (pc : Nat) (q0 : Nat) {a n : Nat} {f : Nat → Int32} {i x : Int32} (ws2 : va_W) (ha : ws[q0]? = some (a, .inl (dI 0, n, .inl f))) (hin : vp_in i n) (hset : ws.set q0 (a, .inl (dI 0, n, .inl (upd f i.toNatClampNeg x))) = ws2) (d : decode cc pc = .ok (.iastore, 1)) (kk : GG p l e R s0 m args below meth c D vwCl (tyE dI) A (fun z : va_W => z) nc ns Q res (F0 m (pc + 1) ls rest) ws2) : GG p l e R s0 m args below meth c D vwCl (tyE dI) A (fun z : va_W => z) nc ns Q res (F0 m pc ls (.int x :: .int i :: .ref a :: rest)) ws := by
  intro r s' hr H locs h1 h2 h3
  subst hset
  exact va_iast X.1.1 X.1.2.1 X.2.2.2.1 h1 h2 h3 q0 0 ha rfl hin d (fun H1 locs1 g1 g2 g3 => kk r s' hr H1 locs1 g1 g2 g3)
theorem gz_zast (X : CX p s0 m args meth c D vwCl (tyE dI) nwE A cc nL ret Ts own) (pc : Nat) (q0 : Nat) {a n : Nat} {f : Nat → Int32} {i x : Int32} (ws2 : va_W) (ha : ws[q0]? = some (a, .inl (dI 1, n, .inl f))) (hin : vp_in i n) (hset : ws.set q0 (a, .inl (dI 1, n, .inl (upd f i.toNatClampNeg (vp_nar .boolean x)))) = ws2) (d : decode cc pc = .ok (.bastore, 1)) (kk : GG p l e R s0 m args below meth c D vwCl (tyE dI) A (fun z : va_W => z) nc ns Q res (F0 m (pc + 1) ls rest) ws2) : GG p l e R s0 m args below meth c D vwCl (tyE dI) A (fun z : va_W => z) nc ns Q res (F0 m pc ls (.int x :: .int i :: .ref a :: rest)) ws := by
  intro r s' hr H locs h1 h2 h3
  subst hset
  exact va_zast X.1.1 X.1.2.1 X.2.2.2.1 h1 h2 h3 q0 1 ha rfl hin d (fun H1 locs1 g1 g2 g3 => kk r s' hr H1 locs1 g1 g2 g3)
theorem gz_ctor (X : CX p s0 m args meth c D vwCl (tyE dI) nwE A cc nL ret Ts own) (pc : Nat) {w1 : va_W} {b ci : Nat} {fs : List Value} {Wp : va_W → Prop} {y : MethodName} {bytes : ByteArray} {maxL n index mc ms : Nat} {wsM : List Cond} {rm : Room} (As rest : List Value) {st0 : List Value} (hao : aoE s0) (hM : ∀ sz, Met l y wsM rm (Pz D dI sz [(b, .inr (ci, fs))] (.ref b :: As)) (Qz D dI (va_A [(b, .inr (ci, fs))] sz) Wp) mc ms (va_A [(b, .inr (ci, fs))] sz)) (cw : CallB R s0 args own index y bytes maxL none wsM rm mc ms n ∧ y.name = "<init>" ∧ (Cond.instanceMethod y).before args s0 = true) (hn : As.length = n) (hsize : ls.size = nL) (hst : st0 = As.reverse ++ .ref b :: rest) (hroom : (rest.map fun v => v.category).sum ≤ 8) (hR : nc + mc ≤ R.cells ∧ ns + ms ≤ R.slots) (d : decode cc pc = .ok (.invokespecial index, 3)) (kk : ∀ w', Wp w' → GG p l e R s0 m args below meth c D vwCl (tyE dI) A (fun z : va_W => z) (nc + mc) (ns + ms) Q res (F0 m (pc + 3) ls rest) (w1 ++ w')) : GG p l e R s0 m args below meth c D vwCl (tyE dI) A (fun z : va_W => z) nc ns Q res (F0 m pc ls st0) (w1 ++ [(b, .inr (ci, fs))]) := by
  intro r s' hres H locs hP hD hS
  have hPc := vP_r hP
  have hDc := vD_r hD
  have hfree := gg_free (w := fun z : va_W => z) (s := [(b, .inr (ci, fs))]) X hDc hS
  have hrun := va_runI (As := As) (rest := rest) (locs := locs) (below := below) (e := e) (meth := meth) (cells := nc) (slots := ns) (g := F0 m pc ls st0) X.1 (hM H.size) cw ⟨pz_blind, fun U hU hW => ⟨rfl, by rw [hU], by rw [hU]; exact hPc, va_K.moved hW.alike X.2.2.2.1, hDc.weaken (fun _ _ _ _ => trivial), nw_warm nwOk_E hW X.2.2.2.2.2, hao.moved hW.alike⟩⟩ rfl hn hsize hst (lv_room hroom) d hR
  intro T hT X0
  obtain ⟨v, st₀, t, T', L, h0, X', hL, e1, e2, ⟨hv, w', hw', qP, qK, qD, hz, hkp⟩, st⟩ := hrun T hT X0
  cases hv
  rw [h0] at hz hkp
  have hfr := fr_r hP hD (H1 := T'.heap) (fun q g1 g2 => by rw [e1]; exact hkp q g1 g2) hfree (by rw [e1]; exact qP) qD
  obtain ⟨t2, a1, b1⟩ := kk w' hw' r s' hres T'.heap (locs ++ L) hfr.1 hfr.2 ⟨Nat.le_trans hS.1 (by rw [e1]; exact hz), fun q g1 g2 => by rw [e1, hkp q (Nat.lt_of_lt_of_le g1 hS.1) (fun z => g2 (hfree q z))]; exact hS.2.1 q g1 g2, fun q hq => by
    rcases List.mem_append.mp hq with h | h
    · exact hS.2.2 q h
    · exact hfree _ (hL q h)⟩ T' rfl X'
  exact ⟨t2, st t2 a1, b1⟩
theorem gz_ctorN (X : CX p s0 m args meth c D vwCl (tyE dI) nwE A cc nL ret Ts own) (pc : Nat) {w1 : va_W} {b ci : Nat} {fs : List Value} {Wp : va_W → Prop} {y : MethodName} {bytes : ByteArray} {maxL n index mc ms : Nat} {wsM : List Cond} {rm : Room} {host : String} (As rest : List Value) {st0 : List Value} (hao : aoE s0) (hM : ∀ sz, Met l y wsM rm (Pz D dI sz [(b, .inr (ci, fs))] (.ref b :: As)) (Qz D dI (va_A [(b, .inr (ci, fs))] sz) Wp) mc ms (va_A [(b, .inr (ci, fs))] sz)) (cw : va_CN R s0 args own index y host bytes maxL none wsM rm mc ms n ∧ y.name = "<init>" ∧ (Cond.instanceMethod y).before args s0 = true) (hn : As.length = n) (hsize : ls.size = nL) (hst : st0 = As.reverse ++ .ref b :: rest) (hroom : (rest.map fun v => v.category).sum ≤ 8) (hR : nc + mc ≤ R.cells ∧ ns + ms ≤ R.slots) (d : decode cc pc = .ok (.invokespecial index, 3)) (kk : ∀ w', Wp w' → GG p l e R s0 m args below meth c D vwCl (tyE dI) A (fun z : va_W => z) (nc + mc) (ns + ms) Q res (F0 m (pc + 3) ls rest) (w1 ++ w')) : GG p l e R s0 m args below meth c D vwCl (tyE dI) A (fun z : va_W => z) nc ns Q res (F0 m pc ls st0) (w1 ++ [(b, .inr (ci, fs))]) := by
  intro r s' hres H locs hP hD hS
  have hPc := vP_r hP
  have hDc := vD_r hD
  have hfree := gg_free (w := fun z : va_W => z) (s := [(b, .inr (ci, fs))]) X hDc hS
  have hrun := va_runIN (As := As) (rest := rest) (locs := locs) (below := below) (e := e) (meth := meth) (cells := nc) (slots := ns) (g := F0 m pc ls st0) X.1 (hM H.size) cw ⟨pz_blind, fun U hU hW => ⟨rfl, by rw [hU], by rw [hU]; exact hPc, va_K.moved hW.alike X.2.2.2.1, hDc.weaken (fun _ _ _ _ => trivial), nw_warm nwOk_E hW X.2.2.2.2.2, hao.moved hW.alike⟩⟩ rfl hn hsize hst (lv_room hroom) d hR
  intro T hT X0
  obtain ⟨v, st₀, t, T', L, h0, X', hL, e1, e2, ⟨hv, w', hw', qP, qK, qD, hz, hkp⟩, st⟩ := hrun T hT X0
  cases hv
  rw [h0] at hz hkp
  have hfr := fr_r hP hD (H1 := T'.heap) (fun q g1 g2 => by rw [e1]; exact hkp q g1 g2) hfree (by rw [e1]; exact qP) qD
  obtain ⟨t2, a1, b1⟩ := kk w' hw' r s' hres T'.heap (locs ++ L) hfr.1 hfr.2 ⟨Nat.le_trans hS.1 (by rw [e1]; exact hz), fun q g1 g2 => by rw [e1, hkp q (Nat.lt_of_lt_of_le g1 hS.1) (fun z => g2 (hfree q z))]; exact hS.2.1 q g1 g2, fun q hq => by
    rcases List.mem_append.mp hq with h | h
    · exact hS.2.2 q h
    · exact hfree _ (hL q h)⟩ T' rfl X'
  exact ⟨t2, st t2 a1, b1⟩
end GZS
theorem gz_vret {p : Program} {l : Launch} {e : Env} {R : Room} {s0 : State} {m : MethodId} {args : Array Value} {below : List Frame} {meth : Method} {c : Code} {D : va_G} {dI : Nat → ClassId} {A : Nat → Prop} {nc ns : Nat} {cc : ByteArray} {nL : Nat} {Ts : List Cond} {own : String} {ls : Array Slot} {ws : va_W} {Wp : va_W → Prop} (X : CX p s0 m args meth c D vwCl (tyE dI) nwE A cc nL none Ts own) (pc : Nat) (hw : Wp ws) (d : decode cc pc = .ok (.return_, 1)) : GG p l e R s0 m args below meth c D vwCl (tyE dI) A (fun z : va_W => z) nc ns (fun (_ : Unit) (_ : va_W) => MQ below (Qz D dI A Wp) args s0 nc ns A) (some ((), [])) (F0 m pc ls []) ws := fun r s' hr H locs h1 h2 h3 => W.vret X.1.1 X.1.2.1 X.2.1 (fun t ht hW => ⟨rfl, ws, hw, by rw [ht]; exact h1, va_K.moved hW.alike X.2.2.2.1, h2, h3.F ht⟩) h3.2.2 d X.2.2.1
theorem met_ctor {l : Launch} {D : va_G} {dI : Nat → ClassId} {Wp : va_W → Prop} {ws : va_W} {y : MethodName} {wsM ws' : List Cond} {rm : Room} {cc : ByteArray} {nL mc ms sz : Nat} {own : String} (av : List Value) (hy : plainName y.cls = true) (hw : wsM = Cond.code y cc nL none :: ws') (ho : y.cls = own) (hlen : (lg_sl av).length ≤ nL) (hi : y.name = "<init>")
    (body : ∀ (p : Program) (e : Env) (s0 : State) (m : MethodId) (args : Array Value) (below : List Frame) (meth : Method) (c : Code) (A : Nat → Prop) (ls : Array Slot), CX p s0 m args meth c D vwCl (tyE dI) nwE A cc nL none wsM own → meth.name = "<init>" → aoE s0 → lv_has ls nL (lv_args 0 av) → GG p l e rm s0 m args below meth c D vwCl (tyE dI) A (fun z : va_W => z) 0 0 (fun (_ : Unit) (_ : va_W) => MQ below (Qz D dI A Wp) args s0 mc ms A) (some ((), [])) (F0 m 0 ls []) ws) :
    Met l y wsM rm (Pz D dI sz ws av) (Qz D dI (va_A ws sz) Wp) mc ms (va_A ws sz) := by
  refine Met.ofW (cc := cc) (maxL := nL) (ret := none) hy hw ?_
  intro p e s0 m args below meth c s₁ B hml hv
  obtain ⟨rfl, hsz, hP, hK, hD0, hN, hAo⟩ := hv
  have hts := atoms_spec (ws := wsM) B.pre
  have hown : s0.vm.findClass own = some m.cls := by rw [← ho]; exact findClass_of_methodNamed B.named
  have hlocks := B.notSynchronized
  have hnm : meth.name = "<init>" := ((name_of_methodNamed B.named B.method).1).trans hi
  subst hsz
  have hD := hD0.self (sz := s0.heap.size)
  have hA : ∀ q : Nat, s0.heap.size ≤ q → va_A ws s0.heap.size q := fun q h => Or.inr h
  have hl := lv_entry av (n := nL) hlen
  rw [lg_entry_eq]
  exact body p e s0 m av.toArray below meth c _ _ ⟨⟨B.exec, B.bytes, hml, hown, hts⟩, B.returns, hlocks, hK, hA, hN⟩ hnm hAo hl () [] rfl s0.heap [] hP hD va_S.rf
