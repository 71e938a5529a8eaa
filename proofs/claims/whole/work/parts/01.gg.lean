/-! the state of a world is a function of two numbers (component, index); a method's meaning is a function eS -> Option (answer x eS); GG ties the two -/
abbrev eS : Type := Nat → Nat → Int32
def wr (s : eS) (c i : Nat) (x : Int32) : eS := fun c' => if c' = c then upd (s c') i x else s c'
def nm {α β : Type} (a : α) (k : α → β) : β := k a
def ix {α : Type} (i : Int32) (n : Nat) (k : Option α) : Option α := if i < 0 ∨ n ≤ i.toNatClampNeg then none else k
def nz {α : Type} (y : Int32) (k : Option α) : Option α := if y = 0 then none else k
def bz {α : Type} (y : Int32) (k : Option α) : Option α := if vp_nar .boolean y = y then k else none
def bnd {ρ σ τ : Type} (o : Option (ρ × σ)) (k : ρ → σ → Option τ) : Option τ := match o with
  | none => none
  | some (r, s) => k r s
def fu : Nat := 2000
abbrev rvI : Int32 → Option Value := fun r => some (.int r)
abbrev rvV : Unit → Option Value := fun _ => none
abbrev rvR (ad : Nat → Nat) (b : Nat) : Nat → Option Value := fun n => some (.ref (ad (b + n)))
def Qx {ρ σ : Type} (rv : ρ → Option Value) (w : σ → va_W) (D : va_G) (cl : List vw_C) (tys : List (ClassId × FieldType)) (A : Nat → Prop) (r : ρ) (s' : σ) : Array Value → State → Outcome → State → Prop := fun _ st oc t => oc = .returned (rv r) ∧ va_P D cl (w s') t.heap ∧ va_K D cl tys t ∧ va_D A (w s') ∧ va_F A st t
def Px {σ : Type} (w : σ → va_W) (D : va_G) (cl : List vw_C) (tys : List (ClassId × FieldType)) (nw : List Cond) (sz : Nat) (s : σ) (av : List Value) : Array Value → State → Prop := va_Pc av (fun U => U.heap.size = sz ∧ va_P D cl (w s) U.heap ∧ va_K D cl tys U ∧ va_D (fun _ => True) (w s) ∧ ∀ x ∈ nw, va_Nw x U)
def CX (p : Program) (s0 : State) (m : MethodId) (args : Array Value) (meth : Method) (c : Code) (D : va_G) (cl : List vw_C) (tys : List (ClassId × FieldType)) (nw : List Cond) (A : Nat → Prop) (cc : ByteArray) (nL : Nat) (ret : Option FieldType) (Ts : List Cond) (own : String) : Prop :=
  CallFix p m c cc nL s0 args Ts own ∧ meth.sig.returnType = ret ∧ meth.locks = false ∧ va_K D cl tys s0 ∧ (∀ q, s0.heap.size ≤ q → A q) ∧ ∀ x ∈ nw, va_Nw x s0
def QM {ρ σ : Type} (below : List Frame) (args : Array Value) (s0 : State) (D : va_G) (cl : List vw_C) (tys : List (ClassId × FieldType)) (A : Nat → Prop) (w : σ → va_W) (rv : ρ → Option Value) : ρ → σ → State → Prop := fun r s' => MQ below (Qx rv w D cl tys A r s') args s0 0 0 A
def GG {ρ σ : Type} (p : Program) (l : Launch) (e : Env) (R : Room) (s0 : State) (m : MethodId) (args : Array Value) (below : List Frame) (meth : Method) (c : Code) (D : va_G) (cl : List vw_C) (tys : List (ClassId × FieldType)) (A : Nat → Prop) (w : σ → va_W) (nc ns : Nat) (Q : ρ → σ → State → Prop) (res : Option (ρ × σ)) (g : JFrame) (s : σ) : Prop :=
  ∀ (r : ρ) (s' : σ), res = some (r, s') → ∀ (H : Heap) (locs : List Loc), va_P D cl (w s) H → va_D A (w s) → va_S A s0.heap H locs → W p l e R s0 m args below meth c H locs nc ns (Q r s') g
theorem ixb {i : Int32} {n : Nat} (h : vp_in i n) : i.toNatClampNeg < n := Nat.not_le.mp fun q => h (Or.inr q)
theorem ixb2 {a i n : Nat} (ha : a < n) (hi : i < 2) : 2 * a + i < 2 * n := by omega
section GGS
variable {p : Program} {l : Launch} {e : Env} {R : Room} {s0 : State} {m : MethodId} {args : Array Value} {below : List Frame} {meth : Method} {c : Code} {D : va_G} {cl : List vw_C} {tys : List (ClassId × FieldType)} {nw : List Cond} {A : Nat → Prop} {σ : Type} {w : σ → va_W} {nc ns : Nat} {cc : ByteArray} {nL : Nat} {ret : Option FieldType} {Ts : List Cond} {own : String} {ρ : Type} {Q : ρ → σ → State → Prop} {res : Option (ρ × σ)} {ls : Array Slot} {rest : List Value} {s : σ}
theorem gg_none {g : JFrame} : GG p l e R s0 m args below meth c D cl tys A w nc ns Q none (g) s := fun r s' hr => by cases hr
theorem gg_iconst (X : CX p s0 m args meth c D cl tys nw A cc nL ret Ts own) (pc : Nat) {n : Int} (v : Int32) (d : decode cc pc = .ok (.iconst n, 1)) (hv : Int32.ofInt n = v) (k : GG p l e R s0 m args below meth c D cl tys A w nc ns Q res (F0 m (pc + 1) ls (.int v :: rest)) s) : GG p l e R s0 m args below meth c D cl tys A w nc ns Q res (F0 m pc ls (rest)) s := fun r s' hr H locs h1 h2 h3 => lv_iconst X.1.1 X.1.2.1 d hv (k r s' hr H locs h1 h2 h3)
theorem gg_bipush (X : CX p s0 m args meth c D cl tys nw A cc nL ret Ts own) (pc : Nat) {n : Int} (v : Int32) (d : decode cc pc = .ok (.bipush n, 2)) (hv : (Int8.ofInt n).toInt32 = v) (k : GG p l e R s0 m args below meth c D cl tys A w nc ns Q res (F0 m (pc + 2) ls (.int v :: rest)) s) : GG p l e R s0 m args below meth c D cl tys A w nc ns Q res (F0 m pc ls (rest)) s := fun r s' hr H locs h1 h2 h3 => lv_bipush X.1.1 X.1.2.1 d hv (k r s' hr H locs h1 h2 h3)
theorem gg_sipush (X : CX p s0 m args meth c D cl tys nw A cc nL ret Ts own) (pc : Nat) {n : Int} (v : Int32) (d : decode cc pc = .ok (.sipush n, 3)) (hv : (Int16.ofInt n).toInt32 = v) (k : GG p l e R s0 m args below meth c D cl tys A w nc ns Q res (F0 m (pc + 3) ls (.int v :: rest)) s) : GG p l e R s0 m args below meth c D cl tys A w nc ns Q res (F0 m pc ls (rest)) s := fun r s' hr H locs h1 h2 h3 => lv_sipush X.1.1 X.1.2.1 d hv (k r s' hr H locs h1 h2 h3)
theorem gg_ldc (X : CX p s0 m args meth c D cl tys nw A cc nL ret Ts own) (pc : Nat) {index : Nat} (v : Int32) (hc : Cond.constant own index v ∈ Ts) (d : decode cc pc = .ok (.ldc index, 2)) (k : GG p l e R s0 m args below meth c D cl tys A w nc ns Q res (F0 m (pc + 2) ls (.int v :: rest)) s) : GG p l e R s0 m args below meth c D cl tys A w nc ns Q res (F0 m pc ls rest) s := fun r s' hr H locs h1 h2 h3 => lv_ldc X.1.1 X.1.2.1 X.1.2.2.2.1 (X.1.2.2.2.2 _ hc) d (k r s' hr H locs h1 h2 h3)
theorem gg_iload_n (X : CX p s0 m args meth c D cl tys nw A cc nL ret Ts own) (pc : Nat) {kk : Fin 4} {i : Nat} {x : Int32} (d : decode cc pc = .ok (.iload_n kk, 1)) (hi : (kk : Nat) = i) (hl : ls[i]? = some (.val (.int x))) (k : GG p l e R s0 m args below meth c D cl tys A w nc ns Q res (F0 m (pc + 1) ls (.int x :: rest)) s) : GG p l e R s0 m args below meth c D cl tys A w nc ns Q res (F0 m pc ls (rest)) s := fun r s' hr H locs h1 h2 h3 => lv_iload_n X.1.1 X.1.2.1 d hi hl (k r s' hr H locs h1 h2 h3)
theorem gg_iload (X : CX p s0 m args meth c D cl tys nw A cc nL ret Ts own) (pc : Nat) {i : Nat} {x : Int32} (d : decode cc pc = .ok (.iload i, 2)) (hl : ls[i]? = some (.val (.int x))) (k : GG p l e R s0 m args below meth c D cl tys A w nc ns Q res (F0 m (pc + 2) ls (.int x :: rest)) s) : GG p l e R s0 m args below meth c D cl tys A w nc ns Q res (F0 m pc ls (rest)) s := fun r s' hr H locs h1 h2 h3 => lv_iload X.1.1 X.1.2.1 d hl (k r s' hr H locs h1 h2 h3)
theorem gg_aload_n (X : CX p s0 m args meth c D cl tys nw A cc nL ret Ts own) (pc : Nat) {kk : Fin 4} {i x : Nat} (d : decode cc pc = .ok (.aload_n kk, 1)) (hi : (kk : Nat) = i) (hl : ls[i]? = some (.val (.ref x))) (k : GG p l e R s0 m args below meth c D cl tys A w nc ns Q res (F0 m (pc + 1) ls (.ref x :: rest)) s) : GG p l e R s0 m args below meth c D cl tys A w nc ns Q res (F0 m pc ls (rest)) s := fun r s' hr H locs h1 h2 h3 => lv_aload_n X.1.1 X.1.2.1 d hi hl (k r s' hr H locs h1 h2 h3)
theorem gg_aload (X : CX p s0 m args meth c D cl tys nw A cc nL ret Ts own) (pc : Nat) {i x : Nat} (d : decode cc pc = .ok (.aload i, 2)) (hl : ls[i]? = some (.val (.ref x))) (k : GG p l e R s0 m args below meth c D cl tys A w nc ns Q res (F0 m (pc + 2) ls (.ref x :: rest)) s) : GG p l e R s0 m args below meth c D cl tys A w nc ns Q res (F0 m pc ls (rest)) s := fun r s' hr H locs h1 h2 h3 => lv_aload X.1.1 X.1.2.1 d hl (k r s' hr H locs h1 h2 h3)
theorem gg_istore_n (X : CX p s0 m args meth c D cl tys nw A cc nL ret Ts own) (pc : Nat) {kk : Fin 4} {i : Nat} {x : Int32} {lv : List (Nat × Value)} (lv' : Int32 → List (Nat × Value)) {K : Int32 → Option (ρ × σ)} (d : decode cc pc = .ok (.istore_n kk, 1)) (hi : (kk : Nat) = i) (h : lv_has ls nL lv) (hn : i < nL) (hl : ∀ v, (i, Value.int v) :: lv.filter (fun q => !(q.1 == i) && !(q.1 + 1 == i && q.2.category == 2)) = lv' v) (k : ∀ (v : Int32) (ls : Array Slot), lv_has ls nL (lv' v) → GG p l e R s0 m args below meth c D cl tys A w nc ns Q (K v) (F0 m (pc + 1) ls rest) s) : GG p l e R s0 m args below meth c D cl tys A w nc ns Q (nm x K) (F0 m pc ls (.int x :: rest)) s := fun r s' hr H locs h1 h2 h3 => lv_istore_n X.1.1 X.1.2.1 d hi h hn (hl x) (fun ls' hls => k x ls' hls r s' hr H locs h1 h2 h3)
theorem gg_istore (X : CX p s0 m args meth c D cl tys nw A cc nL ret Ts own) (pc : Nat) {i : Nat} {x : Int32} {lv : List (Nat × Value)} (lv' : Int32 → List (Nat × Value)) {K : Int32 → Option (ρ × σ)} (d : decode cc pc = .ok (.istore i, 2)) (h : lv_has ls nL lv) (hn : i < nL) (hl : ∀ v, (i, Value.int v) :: lv.filter (fun q => !(q.1 == i) && !(q.1 + 1 == i && q.2.category == 2)) = lv' v) (k : ∀ (v : Int32) (ls : Array Slot), lv_has ls nL (lv' v) → GG p l e R s0 m args below meth c D cl tys A w nc ns Q (K v) (F0 m (pc + 2) ls rest) s) : GG p l e R s0 m args below meth c D cl tys A w nc ns Q (nm x K) (F0 m pc ls (.int x :: rest)) s := fun r s' hr H locs h1 h2 h3 => lv_istore X.1.1 X.1.2.1 d h hn (hl x) (fun ls' hls => k x ls' hls r s' hr H locs h1 h2 h3)
theorem gg_astore_n (X : CX p s0 m args meth c D cl tys nw A cc nL ret Ts own) (pc : Nat) {kk : Fin 4} {i : Nat} {ad : Nat → Nat} {b x : Nat} (B : Nat) {lv : List (Nat × Value)} (lv' : Nat → List (Nat × Value)) {K : Nat → Option (ρ × σ)} (d : decode cc pc = .ok (.astore_n kk, 1)) (hi : (kk : Nat) = i) (h : lv_has ls nL lv) (hn : i < nL) (hl : ∀ v, (i, Value.ref (ad (b + v))) :: lv.filter (fun q => !(q.1 == i) && !(q.1 + 1 == i && q.2.category == 2)) = lv' v) (hB : x < B) (k : ∀ (v : Nat) (ls : Array Slot), v < B → lv_has ls nL (lv' v) → GG p l e R s0 m args below meth c D cl tys A w nc ns Q (K v) (F0 m (pc + 1) ls rest) s) : GG p l e R s0 m args below meth c D cl tys A w nc ns Q (nm x K) (F0 m pc ls (.ref (ad (b + x)) :: rest)) s := fun r s' hr H locs h1 h2 h3 => lv_astore_n X.1.1 X.1.2.1 d hi h hn (hl x) (fun ls' hls => k x ls' hB hls r s' hr H locs h1 h2 h3)
theorem gg_astore (X : CX p s0 m args meth c D cl tys nw A cc nL ret Ts own) (pc : Nat) {i : Nat} {ad : Nat → Nat} {b x : Nat} (B : Nat) {lv : List (Nat × Value)} (lv' : Nat → List (Nat × Value)) {K : Nat → Option (ρ × σ)} (d : decode cc pc = .ok (.astore i, 2)) (h : lv_has ls nL lv) (hn : i < nL) (hl : ∀ v, (i, Value.ref (ad (b + v))) :: lv.filter (fun q => !(q.1 == i) && !(q.1 + 1 == i && q.2.category == 2)) = lv' v) (hB : x < B) (k : ∀ (v : Nat) (ls : Array Slot), v < B → lv_has ls nL (lv' v) → GG p l e R s0 m args below meth c D cl tys A w nc ns Q (K v) (F0 m (pc + 2) ls rest) s) : GG p l e R s0 m args below meth c D cl tys A w nc ns Q (nm x K) (F0 m pc ls (.ref (ad (b + x)) :: rest)) s := fun r s' hr H locs h1 h2 h3 => lv_astore X.1.1 X.1.2.1 d h hn (hl x) (fun ls' hls => k x ls' hB hls r s' hr H locs h1 h2 h3)
theorem gg_iinc (X : CX p s0 m args meth c D cl tys nw A cc nL ret Ts own) (pc : Nat) {i k : Nat} {n : Int} {x : Int32} (v1 : Int32) {lv : List (Nat × Value)} (lv' : Int32 → List (Nat × Value)) {K : Int32 → Option (ρ × σ)} (d : decode cc pc = .ok (.iinc i n, 3)) (h : lv_has ls nL lv) (hk : lv[k]? = some (i, .int x)) (hv : Int32.ofInt n = v1) (hn : i < nL) (hl : ∀ v, (i, Value.int v) :: lv.filter (fun q => !(q.1 == i) && !(q.1 + 1 == i && q.2.category == 2)) = lv' v) (kk : ∀ (v : Int32) (ls : Array Slot), lv_has ls nL (lv' v) → GG p l e R s0 m args below meth c D cl tys A w nc ns Q (K v) (F0 m (pc + 3) ls rest) s) : GG p l e R s0 m args below meth c D cl tys A w nc ns Q (nm (x + v1) K) (F0 m pc ls rest) s := fun r s' hr H locs h1 h2 h3 => lv_iinc X.1.1 X.1.2.1 d h hk (by rw [hv]) hn (hl (x + v1)) (fun ls' hls => kk (x + v1) ls' hls r s' hr H locs h1 h2 h3)
theorem gg_iadd (X : CX p s0 m args meth c D cl tys nw A cc nL ret Ts own) (pc : Nat) {x y : Int32} (d : decode cc pc = .ok (.iadd, 1))  (k : GG p l e R s0 m args below meth c D cl tys A w nc ns Q res (F0 m (pc + 1) ls (.int (x + y) :: rest)) s) : GG p l e R s0 m args below meth c D cl tys A w nc ns Q res (F0 m pc ls (.int y :: .int x :: rest)) s := fun r s' hr H locs h1 h2 h3 => lv_iadd X.1.1 X.1.2.1 d  (k r s' hr H locs h1 h2 h3)
theorem gg_isub (X : CX p s0 m args meth c D cl tys nw A cc nL ret Ts own) (pc : Nat) {x y : Int32} (d : decode cc pc = .ok (.isub, 1))  (k : GG p l e R s0 m args below meth c D cl tys A w nc ns Q res (F0 m (pc + 1) ls (.int (x - y) :: rest)) s) : GG p l e R s0 m args below meth c D cl tys A w nc ns Q res (F0 m pc ls (.int y :: .int x :: rest)) s := fun r s' hr H locs h1 h2 h3 => lv_isub X.1.1 X.1.2.1 d  (k r s' hr H locs h1 h2 h3)
theorem gg_imul (X : CX p s0 m args meth c D cl tys nw A cc nL ret Ts own) (pc : Nat) {x y : Int32} (d : decode cc pc = .ok (.imul, 1))  (k : GG p l e R s0 m args below meth c D cl tys A w nc ns Q res (F0 m (pc + 1) ls (.int (x * y) :: rest)) s) : GG p l e R s0 m args below meth c D cl tys A w nc ns Q res (F0 m pc ls (.int y :: .int x :: rest)) s := fun r s' hr H locs h1 h2 h3 => lv_imul X.1.1 X.1.2.1 d  (k r s' hr H locs h1 h2 h3)
theorem gg_iand (X : CX p s0 m args meth c D cl tys nw A cc nL ret Ts own) (pc : Nat) {x y : Int32} (d : decode cc pc = .ok (.iand, 1))  (k : GG p l e R s0 m args below meth c D cl tys A w nc ns Q res (F0 m (pc + 1) ls (.int (x &&& y) :: rest)) s) : GG p l e R s0 m args below meth c D cl tys A w nc ns Q res (F0 m pc ls (.int y :: .int x :: rest)) s := fun r s' hr H locs h1 h2 h3 => lv_iand X.1.1 X.1.2.1 d  (k r s' hr H locs h1 h2 h3)
theorem gg_ior (X : CX p s0 m args meth c D cl tys nw A cc nL ret Ts own) (pc : Nat) {x y : Int32} (d : decode cc pc = .ok (.ior, 1))  (k : GG p l e R s0 m args below meth c D cl tys A w nc ns Q res (F0 m (pc + 1) ls (.int (x ||| y) :: rest)) s) : GG p l e R s0 m args below meth c D cl tys A w nc ns Q res (F0 m pc ls (.int y :: .int x :: rest)) s := fun r s' hr H locs h1 h2 h3 => lv_ior X.1.1 X.1.2.1 d  (k r s' hr H locs h1 h2 h3)
theorem gg_ixor (X : CX p s0 m args meth c D cl tys nw A cc nL ret Ts own) (pc : Nat) {x y : Int32} (d : decode cc pc = .ok (.ixor, 1))  (k : GG p l e R s0 m args below meth c D cl tys A w nc ns Q res (F0 m (pc + 1) ls (.int (x ^^^ y) :: rest)) s) : GG p l e R s0 m args below meth c D cl tys A w nc ns Q res (F0 m pc ls (.int y :: .int x :: rest)) s := fun r s' hr H locs h1 h2 h3 => lv_ixor X.1.1 X.1.2.1 d  (k r s' hr H locs h1 h2 h3)
theorem gg_ishl (X : CX p s0 m args meth c D cl tys nw A cc nL ret Ts own) (pc : Nat) {x y : Int32} (d : decode cc pc = .ok (.ishl, 1))  (k : GG p l e R s0 m args below meth c D cl tys A w nc ns Q res (F0 m (pc + 1) ls (.int (x <<< (y &&& 31)) :: rest)) s) : GG p l e R s0 m args below meth c D cl tys A w nc ns Q res (F0 m pc ls (.int y :: .int x :: rest)) s := fun r s' hr H locs h1 h2 h3 => lv_ishl X.1.1 X.1.2.1 d  (k r s' hr H locs h1 h2 h3)
theorem gg_ishr (X : CX p s0 m args meth c D cl tys nw A cc nL ret Ts own) (pc : Nat) {x y : Int32} (d : decode cc pc = .ok (.ishr, 1))  (k : GG p l e R s0 m args below meth c D cl tys A w nc ns Q res (F0 m (pc + 1) ls (.int (x >>> (y &&& 31)) :: rest)) s) : GG p l e R s0 m args below meth c D cl tys A w nc ns Q res (F0 m pc ls (.int y :: .int x :: rest)) s := fun r s' hr H locs h1 h2 h3 => lv_ishr X.1.1 X.1.2.1 d  (k r s' hr H locs h1 h2 h3)
theorem gg_iushr (X : CX p s0 m args meth c D cl tys nw A cc nL ret Ts own) (pc : Nat) {x y : Int32} (d : decode cc pc = .ok (.iushr, 1))  (k : GG p l e R s0 m args below meth c D cl tys A w nc ns Q res (F0 m (pc + 1) ls (.int ((x.toUInt32 >>> (y.toUInt32 &&& Int32.toUInt32 31)).toInt32) :: rest)) s) : GG p l e R s0 m args below meth c D cl tys A w nc ns Q res (F0 m pc ls (.int y :: .int x :: rest)) s := fun r s' hr H locs h1 h2 h3 => lv_iushr X.1.1 X.1.2.1 d rfl (k r s' hr H locs h1 h2 h3)
theorem gg_ineg (X : CX p s0 m args meth c D cl tys nw A cc nL ret Ts own) (pc : Nat) {x : Int32} (d : decode cc pc = .ok (.ineg, 1))  (k : GG p l e R s0 m args below meth c D cl tys A w nc ns Q res (F0 m (pc + 1) ls (.int (-x) :: rest)) s) : GG p l e R s0 m args below meth c D cl tys A w nc ns Q res (F0 m pc ls (.int x :: rest)) s := fun r s' hr H locs h1 h2 h3 => lv_ineg X.1.1 X.1.2.1 d  (k r s' hr H locs h1 h2 h3)
theorem gg_idivk (X : CX p s0 m args meth c D cl tys nw A cc nL ret Ts own) (pc : Nat) {x y : Int32} (d : decode cc pc = .ok (.idiv, 1)) (hne : ¬ y = 0) (k : GG p l e R s0 m args below meth c D cl tys A w nc ns Q res (F0 m (pc + 1) ls (.int (x / y) :: rest)) s) : GG p l e R s0 m args below meth c D cl tys A w nc ns Q res (F0 m pc ls (.int y :: .int x :: rest)) s := fun r s' hr H locs h1 h2 h3 => lv_idiv X.1.1 X.1.2.1 d hne (k r s' hr H locs h1 h2 h3)
theorem gg_iremk (X : CX p s0 m args meth c D cl tys nw A cc nL ret Ts own) (pc : Nat) {x y : Int32} (d : decode cc pc = .ok (.irem, 1)) (hne : ¬ y = 0) (k : GG p l e R s0 m args below meth c D cl tys A w nc ns Q res (F0 m (pc + 1) ls (.int (x - x / y * y) :: rest)) s) : GG p l e R s0 m args below meth c D cl tys A w nc ns Q res (F0 m pc ls (.int y :: .int x :: rest)) s := fun r s' hr H locs h1 h2 h3 => lv_irem X.1.1 X.1.2.1 d hne (k r s' hr H locs h1 h2 h3)
theorem gg_idiv (X : CX p s0 m args meth c D cl tys nw A cc nL ret Ts own) (pc : Nat) {x y : Int32} (d : decode cc pc = .ok (.idiv, 1)) (k : ¬ y = 0 → GG p l e R s0 m args below meth c D cl tys A w nc ns Q res (F0 m (pc + 1) ls (.int (x / y) :: rest)) s) : GG p l e R s0 m args below meth c D cl tys A w nc ns Q (nz y res) (F0 m pc ls (.int y :: .int x :: rest)) s := by
  intro r s' hr H locs h1 h2 h3
  unfold nz at hr
  by_cases h : y = 0
  · rw [if_pos h] at hr; cases hr
  · rw [if_neg h] at hr; exact lv_idiv X.1.1 X.1.2.1 d h (k h r s' hr H locs h1 h2 h3)
theorem gg_irem (X : CX p s0 m args meth c D cl tys nw A cc nL ret Ts own) (pc : Nat) {x y : Int32} (d : decode cc pc = .ok (.irem, 1)) (k : ¬ y = 0 → GG p l e R s0 m args below meth c D cl tys A w nc ns Q res (F0 m (pc + 1) ls (.int (x - x / y * y) :: rest)) s) : GG p l e R s0 m args below meth c D cl tys A w nc ns Q (nz y res) (F0 m pc ls (.int y :: .int x :: rest)) s := by
  intro r s' hr H locs h1 h2 h3
  unfold nz at hr
  by_cases h : y = 0
  · rw [if_pos h] at hr; cases hr
  · rw [if_neg h] at hr; exact lv_irem X.1.1 X.1.2.1 d h (k h r s' hr H locs h1 h2 h3)
theorem gg_dup (X : CX p s0 m args meth c D cl tys nw A cc nL ret Ts own) (pc : Nat) {va : Value} (d : decode cc pc = .ok (.dup, 1)) (ha : va.category = 1) (k : GG p l e R s0 m args below meth c D cl tys A w nc ns Q res (F0 m (pc + 1) ls (va :: va :: rest)) s) : GG p l e R s0 m args below meth c D cl tys A w nc ns Q res (F0 m pc ls (va :: rest)) s := fun r s' hr H locs h1 h2 h3 => lv_dup X.1.1 X.1.2.1 d ha (k r s' hr H locs h1 h2 h3)
theorem gg_pop (X : CX p s0 m args meth c D cl tys nw A cc nL ret Ts own) (pc : Nat) {va : Value} (d : decode cc pc = .ok (.pop, 1)) (ha : va.category = 1) (k : GG p l e R s0 m args below meth c D cl tys A w nc ns Q res (F0 m (pc + 1) ls (rest)) s) : GG p l e R s0 m args below meth c D cl tys A w nc ns Q res (F0 m pc ls (va :: rest)) s := fun r s' hr H locs h1 h2 h3 => lv_pop X.1.1 X.1.2.1 d ha (k r s' hr H locs h1 h2 h3)
theorem gg_dup2 (X : CX p s0 m args meth c D cl tys nw A cc nL ret Ts own) (pc : Nat) {va vb : Value} (d : decode cc pc = .ok (.dup2, 1)) (ha : va.category = 1) (hb : vb.category = 1) (k : GG p l e R s0 m args below meth c D cl tys A w nc ns Q res (F0 m (pc + 1) ls (va :: vb :: va :: vb :: rest)) s) : GG p l e R s0 m args below meth c D cl tys A w nc ns Q res (F0 m pc ls (va :: vb :: rest)) s := fun r s' hr H locs h1 h2 h3 => lv_dup2_11 X.1.1 X.1.2.1 d ha hb (k r s' hr H locs h1 h2 h3)
theorem gg_if_eq (X : CX p s0 m args meth c D cl tys nw A cc nL ret Ts own) (pc : Nat) {x : Int32} {off : Int} (tgt : Nat) {resT resF : Option (ρ × σ)} (d : decode cc pc = .ok (.ifCond .eq off, 3)) (ht : (pc : Int) + off = (tgt : Int)) (kt : x = 0 → GG p l e R s0 m args below meth c D cl tys A w nc ns Q resT (F0 m tgt ls rest) s) (kf : ¬ x = 0 → GG p l e R s0 m args below meth c D cl tys A w nc ns Q resF (F0 m (pc + 3) ls rest) s) : GG p l e R s0 m args below meth c D cl tys A w nc ns Q (if x = 0 then resT else resF) (F0 m pc ls (.int x :: rest)) s := by
  intro r s' hr H locs h1 h2 h3
  refine lv_if_eq X.1.1 X.1.2.1 d ht (fun h => ?_) (fun h => ?_)
  · rw [if_pos h] at hr; exact kt h r s' hr H locs h1 h2 h3
  · rw [if_neg h] at hr; exact kf h r s' hr H locs h1 h2 h3
theorem gg_icmp_eq (X : CX p s0 m args meth c D cl tys nw A cc nL ret Ts own) (pc : Nat) {x y : Int32} {off : Int} (tgt : Nat) {resT resF : Option (ρ × σ)} (d : decode cc pc = .ok (.if_icmp .eq off, 3)) (ht : (pc : Int) + off = (tgt : Int)) (kt : x = y → GG p l e R s0 m args below meth c D cl tys A w nc ns Q resT (F0 m tgt ls rest) s) (kf : ¬ x = y → GG p l e R s0 m args below meth c D cl tys A w nc ns Q resF (F0 m (pc + 3) ls rest) s) : GG p l e R s0 m args below meth c D cl tys A w nc ns Q (if x = y then resT else resF) (F0 m pc ls (.int y :: .int x :: rest)) s := by
  intro r s' hr H locs h1 h2 h3
  refine lv_icmp_eq X.1.1 X.1.2.1 d ht (fun h => ?_) (fun h => ?_)
  · rw [if_pos h] at hr; exact kt h r s' hr H locs h1 h2 h3
  · rw [if_neg h] at hr; exact kf h r s' hr H locs h1 h2 h3
theorem gg_if_lt (X : CX p s0 m args meth c D cl tys nw A cc nL ret Ts own) (pc : Nat) {x : Int32} {off : Int} (tgt : Nat) {resT resF : Option (ρ × σ)} (d : decode cc pc = .ok (.ifCond .lt off, 3)) (ht : (pc : Int) + off = (tgt : Int)) (kt : x < 0 → GG p l e R s0 m args below meth c D cl tys A w nc ns Q resT (F0 m tgt ls rest) s) (kf : ¬ x < 0 → GG p l e R s0 m args below meth c D cl tys A w nc ns Q resF (F0 m (pc + 3) ls rest) s) : GG p l e R s0 m args below meth c D cl tys A w nc ns Q (if x < 0 then resT else resF) (F0 m pc ls (.int x :: rest)) s := by
  intro r s' hr H locs h1 h2 h3
  refine lv_if_lt X.1.1 X.1.2.1 d ht (fun h => ?_) (fun h => ?_)
  · rw [if_pos h] at hr; exact kt h r s' hr H locs h1 h2 h3
  · rw [if_neg h] at hr; exact kf h r s' hr H locs h1 h2 h3
theorem gg_icmp_lt (X : CX p s0 m args meth c D cl tys nw A cc nL ret Ts own) (pc : Nat) {x y : Int32} {off : Int} (tgt : Nat) {resT resF : Option (ρ × σ)} (d : decode cc pc = .ok (.if_icmp .lt off, 3)) (ht : (pc : Int) + off = (tgt : Int)) (kt : x < y → GG p l e R s0 m args below meth c D cl tys A w nc ns Q resT (F0 m tgt ls rest) s) (kf : ¬ x < y → GG p l e R s0 m args below meth c D cl tys A w nc ns Q resF (F0 m (pc + 3) ls rest) s) : GG p l e R s0 m args below meth c D cl tys A w nc ns Q (if x < y then resT else resF) (F0 m pc ls (.int y :: .int x :: rest)) s := by
  intro r s' hr H locs h1 h2 h3
  refine lv_icmp_lt X.1.1 X.1.2.1 d ht (fun h => ?_) (fun h => ?_)
  · rw [if_pos h] at hr; exact kt h r s' hr H locs h1 h2 h3
  · rw [if_neg h] at hr; exact kf h r s' hr H locs h1 h2 h3
theorem gg_if_ge (X : CX p s0 m args meth c D cl tys nw A cc nL ret Ts own) (pc : Nat) {x : Int32} {off : Int} (tgt : Nat) {resT resF : Option (ρ × σ)} (d : decode cc pc = .ok (.ifCond .ge off, 3)) (ht : (pc : Int) + off = (tgt : Int)) (kt : 0 ≤ x → GG p l e R s0 m args below meth c D cl tys A w nc ns Q resT (F0 m tgt ls rest) s) (kf : ¬ 0 ≤ x → GG p l e R s0 m args below meth c D cl tys A w nc ns Q resF (F0 m (pc + 3) ls rest) s) : GG p l e R s0 m args below meth c D cl tys A w nc ns Q (if 0 ≤ x then resT else resF) (F0 m pc ls (.int x :: rest)) s := by
  intro r s' hr H locs h1 h2 h3
  refine lv_if_ge X.1.1 X.1.2.1 d ht (fun h => ?_) (fun h => ?_)
  · rw [if_pos h] at hr; exact kt h r s' hr H locs h1 h2 h3
  · rw [if_neg h] at hr; exact kf h r s' hr H locs h1 h2 h3
theorem gg_icmp_ge (X : CX p s0 m args meth c D cl tys nw A cc nL ret Ts own) (pc : Nat) {x y : Int32} {off : Int} (tgt : Nat) {resT resF : Option (ρ × σ)} (d : decode cc pc = .ok (.if_icmp .ge off, 3)) (ht : (pc : Int) + off = (tgt : Int)) (kt : y ≤ x → GG p l e R s0 m args below meth c D cl tys A w nc ns Q resT (F0 m tgt ls rest) s) (kf : ¬ y ≤ x → GG p l e R s0 m args below meth c D cl tys A w nc ns Q resF (F0 m (pc + 3) ls rest) s) : GG p l e R s0 m args below meth c D cl tys A w nc ns Q (if y ≤ x then resT else resF) (F0 m pc ls (.int y :: .int x :: rest)) s := by
  intro r s' hr H locs h1 h2 h3
  refine lv_icmp_ge X.1.1 X.1.2.1 d ht (fun h => ?_) (fun h => ?_)
  · rw [if_pos h] at hr; exact kt h r s' hr H locs h1 h2 h3
  · rw [if_neg h] at hr; exact kf h r s' hr H locs h1 h2 h3
theorem gg_if_gt (X : CX p s0 m args meth c D cl tys nw A cc nL ret Ts own) (pc : Nat) {x : Int32} {off : Int} (tgt : Nat) {resT resF : Option (ρ × σ)} (d : decode cc pc = .ok (.ifCond .gt off, 3)) (ht : (pc : Int) + off = (tgt : Int)) (kt : 0 < x → GG p l e R s0 m args below meth c D cl tys A w nc ns Q resT (F0 m tgt ls rest) s) (kf : ¬ 0 < x → GG p l e R s0 m args below meth c D cl tys A w nc ns Q resF (F0 m (pc + 3) ls rest) s) : GG p l e R s0 m args below meth c D cl tys A w nc ns Q (if 0 < x then resT else resF) (F0 m pc ls (.int x :: rest)) s := by
  intro r s' hr H locs h1 h2 h3
  refine lv_if_gt X.1.1 X.1.2.1 d ht (fun h => ?_) (fun h => ?_)
  · rw [if_pos h] at hr; exact kt h r s' hr H locs h1 h2 h3
  · rw [if_neg h] at hr; exact kf h r s' hr H locs h1 h2 h3
theorem gg_icmp_gt (X : CX p s0 m args meth c D cl tys nw A cc nL ret Ts own) (pc : Nat) {x y : Int32} {off : Int} (tgt : Nat) {resT resF : Option (ρ × σ)} (d : decode cc pc = .ok (.if_icmp .gt off, 3)) (ht : (pc : Int) + off = (tgt : Int)) (kt : y < x → GG p l e R s0 m args below meth c D cl tys A w nc ns Q resT (F0 m tgt ls rest) s) (kf : ¬ y < x → GG p l e R s0 m args below meth c D cl tys A w nc ns Q resF (F0 m (pc + 3) ls rest) s) : GG p l e R s0 m args below meth c D cl tys A w nc ns Q (if y < x then resT else resF) (F0 m pc ls (.int y :: .int x :: rest)) s := by
  intro r s' hr H locs h1 h2 h3
  refine lv_icmp_gt X.1.1 X.1.2.1 d ht (fun h => ?_) (fun h => ?_)
  · rw [if_pos h] at hr; exact kt h r s' hr H locs h1 h2 h3
  · rw [if_neg h] at hr; exact kf h r s' hr H locs h1 h2 h3
theorem gg_if_le (X : CX p s0 m args meth c D cl tys nw A cc nL ret Ts own) (pc : Nat) {x : Int32} {off : Int} (tgt : Nat) {resT resF : Option (ρ × σ)} (d : decode cc pc = .ok (.ifCond .le off, 3)) (ht : (pc : Int) + off = (tgt : Int)) (kt : x ≤ 0 → GG p l e R s0 m args below meth c D cl tys A w nc ns Q resT (F0 m tgt ls rest) s) (kf : ¬ x ≤ 0 → GG p l e R s0 m args below meth c D cl tys A w nc ns Q resF (F0 m (pc + 3) ls rest) s) : GG p l e R s0 m args below meth c D cl tys A w nc ns Q (if x ≤ 0 then resT else resF) (F0 m pc ls (.int x :: rest)) s := by
  intro r s' hr H locs h1 h2 h3
  refine lv_if_le X.1.1 X.1.2.1 d ht (fun h => ?_) (fun h => ?_)
  · rw [if_pos h] at hr; exact kt h r s' hr H locs h1 h2 h3
  · rw [if_neg h] at hr; exact kf h r s' hr H locs h1 h2 h3
theorem gg_icmp_le (X : CX p s0 m args meth c D cl tys nw A cc nL ret Ts own) (pc : Nat) {x y : Int32} {off : Int} (tgt : Nat) {resT resF : Option (ρ × σ)} (d : decode cc pc = .ok (.if_icmp .le off, 3)) (ht : (pc : Int) + off = (tgt : Int)) (kt : x ≤ y → GG p l e R s0 m args below meth c D cl tys A w nc ns Q resT (F0 m tgt ls rest) s) (kf : ¬ x ≤ y → GG p l e R s0 m args below meth c D cl tys A w nc ns Q resF (F0 m (pc + 3) ls rest) s) : GG p l e R s0 m args below meth c D cl tys A w nc ns Q (if x ≤ y then resT else resF) (F0 m pc ls (.int y :: .int x :: rest)) s := by
  intro r s' hr H locs h1 h2 h3
  refine lv_icmp_le X.1.1 X.1.2.1 d ht (fun h => ?_) (fun h => ?_)
  · rw [if_pos h] at hr; exact kt h r s' hr H locs h1 h2 h3
  · rw [if_neg h] at hr; exact kf h r s' hr H locs h1 h2 h3
theorem gg_if_ne (X : CX p s0 m args meth c D cl tys nw A cc nL ret Ts own) (pc : Nat) {x : Int32} {off : Int} (tgt : Nat) {resT resF : Option (ρ × σ)} (d : decode cc pc = .ok (.ifCond .ne off, 3)) (ht : (pc : Int) + off = (tgt : Int)) (kt : ¬ x = 0 → GG p l e R s0 m args below meth c D cl tys A w nc ns Q resF (F0 m tgt ls rest) s) (kf : x = 0 → GG p l e R s0 m args below meth c D cl tys A w nc ns Q resT (F0 m (pc + 3) ls rest) s) : GG p l e R s0 m args below meth c D cl tys A w nc ns Q (if x = 0 then resT else resF) (F0 m pc ls (.int x :: rest)) s := by
  intro r s' hr H locs h1 h2 h3
  refine lv_if_ne X.1.1 X.1.2.1 d ht (fun h => ?_) (fun h => ?_)
  · rw [if_neg h] at hr; exact kt h r s' hr H locs h1 h2 h3
  · rw [if_pos h] at hr; exact kf h r s' hr H locs h1 h2 h3
theorem gg_icmp_ne (X : CX p s0 m args meth c D cl tys nw A cc nL ret Ts own) (pc : Nat) {x y : Int32} {off : Int} (tgt : Nat) {resT resF : Option (ρ × σ)} (d : decode cc pc = .ok (.if_icmp .ne off, 3)) (ht : (pc : Int) + off = (tgt : Int)) (kt : ¬ x = y → GG p l e R s0 m args below meth c D cl tys A w nc ns Q resF (F0 m tgt ls rest) s) (kf : x = y → GG p l e R s0 m args below meth c D cl tys A w nc ns Q resT (F0 m (pc + 3) ls rest) s) : GG p l e R s0 m args below meth c D cl tys A w nc ns Q (if x = y then resT else resF) (F0 m pc ls (.int y :: .int x :: rest)) s := by
  intro r s' hr H locs h1 h2 h3
  refine lv_icmp_ne X.1.1 X.1.2.1 d ht (fun h => ?_) (fun h => ?_)
  · rw [if_neg h] at hr; exact kt h r s' hr H locs h1 h2 h3
  · rw [if_pos h] at hr; exact kf h r s' hr H locs h1 h2 h3
theorem gg_goto (X : CX p s0 m args meth c D cl tys nw A cc nL ret Ts own) (pc : Nat) {off : Int} (tgt : Nat) (d : decode cc pc = .ok (.goto off, 3)) (ht : (pc : Int) + off = (tgt : Int)) (k : GG p l e R s0 m args below meth c D cl tys A w nc ns Q res (F0 m tgt ls rest) s) : GG p l e R s0 m args below meth c D cl tys A w nc ns Q res (F0 m pc ls rest) s := fun r s' hr H locs h1 h2 h3 => lv_goto X.1.1 X.1.2.1 d ht (k r s' hr H locs h1 h2 h3)
theorem gg_eqc {x k : Int32} {g : JFrame} {resT resF : Option (ρ × σ)} (kt : x = k → GG p l e R s0 m args below meth c D cl tys A w nc ns Q resT (g) s) (kf : ¬ x = k → GG p l e R s0 m args below meth c D cl tys A w nc ns Q resF (g) s) : GG p l e R s0 m args below meth c D cl tys A w nc ns Q (if x = k then resT else resF) (g) s := by
  intro r s' hr H locs h1 h2 h3
  by_cases h : x = k
  · rw [if_pos h] at hr; exact kt h r s' hr H locs h1 h2 h3
  · rw [if_neg h] at hr; exact kf h r s' hr H locs h1 h2 h3
theorem gg_tin (X : CX p s0 m args meth c D cl tys nw A cc nL ret Ts own) (pc : Nat) {dflt lo hi off : Int} {offs : Array Int} {len : Nat} {x k : Int32} (tgt : Nat) (d : decode cc pc = .ok (.tableswitch dflt lo hi offs, len)) (h : x = k) (h1 : ¬ k.toInt < lo) (h2 : ¬ hi < k.toInt) (ho : offs[(k.toInt - lo).toNat]? = some off) (ht : (pc : Int) + off = (tgt : Int)) (kk : GG p l e R s0 m args below meth c D cl tys A w nc ns Q res (F0 m tgt ls rest) s) : GG p l e R s0 m args below meth c D cl tys A w nc ns Q res (F0 m pc ls (.int x :: rest)) s := by
  subst h
  exact fun r s' hr H locs g1 g2 g3 => lv_tableIn X.1.1 X.1.2.1 d h1 h2 ho ht (kk r s' hr H locs g1 g2 g3)
theorem gg_tout (X : CX p s0 m args meth c D cl tys nw A cc nL ret Ts own) (pc : Nat) {dflt lo hi : Int} {offs : Array Int} {len : Nat} {x : Int32} (tgt : Nat) (d : decode cc pc = .ok (.tableswitch dflt lo hi offs, len)) (h : x.toInt < lo ∨ hi < x.toInt) (ht : (pc : Int) + dflt = (tgt : Int)) (kk : GG p l e R s0 m args below meth c D cl tys A w nc ns Q res (F0 m tgt ls rest) s) : GG p l e R s0 m args below meth c D cl tys A w nc ns Q res (F0 m pc ls (.int x :: rest)) s := fun r s' hr H locs g1 g2 g3 => lv_tableOut X.1.1 X.1.2.1 d h ht (kk r s' hr H locs g1 g2 g3)
theorem gg_iret {r0 : Int32} (X : CX p s0 m args meth c D cl tys nw A cc nL (some .int) Ts own) (pc : Nat) (d : decode cc pc = .ok (.ireturn, 1)) : GG p l e R s0 m args below meth c D cl tys A w 0 0 (QM below args s0 D cl tys A w rvI) (some (r0, s)) (F0 m pc ls [.int r0]) s := by
  intro r s' hr H locs h1 h2 h3
  cases hr
  exact W.iret X.1.1 X.1.2.1 X.2.1 (fun t ht hW => ⟨rfl, by rw [ht]; exact h1, va_K.moved hW.alike X.2.2.2.1, h2, h3.F ht⟩) h3.2.2 d X.2.2.1
theorem gg_zretk {r0 : Int32} (X : CX p s0 m args meth c D cl tys nw A cc nL (some .boolean) Ts own) (pc : Nat) (hn : narrow .boolean (.int r0) = .int r0) (d : decode cc pc = .ok (.ireturn, 1)) : GG p l e R s0 m args below meth c D cl tys A w 0 0 (QM below args s0 D cl tys A w rvI) (some (r0, s)) (F0 m pc ls [.int r0]) s := by
  intro r s' hr H locs h1 h2 h3
  cases hr
  exact W.zret X.1.1 X.1.2.1 X.2.1 hn (fun t ht hW => ⟨rfl, by rw [ht]; exact h1, va_K.moved hW.alike X.2.2.2.1, h2, h3.F ht⟩) h3.2.2 d X.2.2.1
theorem nar_b {x : Int32} (h : vp_nar .boolean x = x) : narrow .boolean (.int x) = .int x := by
  have h2 : narrow .boolean (.int x) = .int (vp_nar .boolean x) := rfl
  rw [h2, h]
theorem gg_zret {r0 : Int32} (X : CX p s0 m args meth c D cl tys nw A cc nL (some .boolean) Ts own) (pc : Nat) (d : decode cc pc = .ok (.ireturn, 1)) : GG p l e R s0 m args below meth c D cl tys A w 0 0 (QM below args s0 D cl tys A w rvI) (bz r0 (some (r0, s))) (F0 m pc ls [.int r0]) s := by
  intro r s' hr
  unfold bz at hr
  by_cases h : vp_nar .boolean r0 = r0
  · rw [if_pos h] at hr; exact gg_zretk X pc (nar_b h) d r s' hr
  · rw [if_neg h] at hr; cases hr
theorem gg_vret (X : CX p s0 m args meth c D cl tys nw A cc nL none Ts own) (pc : Nat) (d : decode cc pc = .ok (.return_, 1)) : GG p l e R s0 m args below meth c D cl tys A w 0 0 (QM below args s0 D cl tys A w rvV) (some ((), s)) (F0 m pc ls []) s := by
  intro r s' hr H locs h1 h2 h3
  cases hr
  exact W.vret X.1.1 X.1.2.1 X.2.1 (fun t ht hW => ⟨rfl, by rw [ht]; exact h1, va_K.moved hW.alike X.2.2.2.1, h2, h3.F ht⟩) h3.2.2 d X.2.2.1
theorem gg_aret {r0 b : Nat} {ad : Nat → Nat} {cn : String} (X : CX p s0 m args meth c D cl tys nw A cc nL (some (.object cn)) Ts own) (pc : Nat) (d : decode cc pc = .ok (.areturn, 1)) : GG p l e R s0 m args below meth c D cl tys A w 0 0 (QM below args s0 D cl tys A w (rvR ad b)) (some (r0, s)) (F0 m pc ls [.ref (ad (b + r0))]) s := by
  intro r s' hr H locs h1 h2 h3
  cases hr
  exact W.aret X.1.1 X.1.2.1 X.2.1 (Or.inl ⟨_, rfl⟩) (Or.inr ⟨_, rfl⟩) (fun t ht hW => ⟨rfl, by rw [ht]; exact h1, va_K.moved hW.alike X.2.2.2.1, h2, h3.F ht⟩) h3.2.2 d X.2.2.1
theorem gg_get (X : CX p s0 m args meth c D cl tys nw A cc nL ret Ts own) (pc : Nat) {q0 a ci k N index : Nat} {C : String} {T : u_T} {fs : List Value} {v : Value} (hin : ∀ x ∈ u_ws C T N, x ∈ Ts) (he : (w s)[q0]? = some (a, .inr (ci, fs))) (hc : cl[ci]? = some (C, T, N)) (hk : k < N) (hv : fs[k]? = some v) (hlink : Cond.fieldLink own index (T k).1 (T k).2.1 (T k).2.2.1 ∈ Ts ∨ ∃ host, Cond.fieldLinkNest own index (T k).1 (T k).2.1 (T k).2.2.1 host ∈ nw) (d : decode cc pc = .ok (.getfield index, 3)) (kk : GG p l e R s0 m args below meth c D cl tys A w nc ns Q res (F0 m (pc + 3) ls (v :: rest)) s) : GG p l e R s0 m args below meth c D cl tys A w nc ns Q res (F0 m pc ls (.ref a :: rest)) s := by
  intro r s' hr H locs h1 h2 h3
  rcases hlink with hl | ⟨host, hl⟩
  · exact va_get X.1.1 X.1.2.1 X.1.2.2.2.2 hin X.1.2.2.2.1 X.2.2.2.1 h1 q0 he hc k hk (X.1.2.2.2.2 _ hl) (fun _ h => h) hv d (kk r s' hr H locs h1 h2 h3)
  · exact va_getN X.1.1 X.1.2.1 X.1.2.2.2.2 hin X.1.2.2.2.1 X.2.2.2.1 h1 q0 he hc k hk (va_Nw.use rfl (X.2.2.2.2.2 _ hl)) (fun _ h => h) hv d (kk r s' hr H locs h1 h2 h3)
theorem gg_put (X : CX p s0 m args meth c D cl tys nw A cc nL ret Ts own) (pc : Nat) {q0 a ci k N index : Nat} {C : String} {T : u_T} {fs : List Value} {v : Value} {ty : FieldType} {s2 : σ} {K : σ → Option (ρ × σ)} (hin : ∀ x ∈ u_ws C T N, x ∈ Ts) (ty0 : Nat → FieldType) (hty : ∀ k, k < N → parseFieldDescriptor (T k).2.2.1 = some (ty0 k)) (hnm : ∀ a, a < N → ∀ b, b < N → a ≠ b → (T a).2.1 ≠ (T b).2.1) (he : (w s)[q0]? = some (a, .inr (ci, fs))) (hc : cl[ci]? = some (C, T, N)) (hk : k < N) (hfin : (T k).2.2.2 = false) (hd : parseFieldDescriptor (T k).2.2.1 = some ty) (hl0 : k < fs.length) (hlink : Cond.fieldLink own index (T k).1 (T k).2.1 (T k).2.2.1 ∈ Ts ∨ ∃ host, Cond.fieldLinkNest own index (T k).1 (T k).2.1 (T k).2.2.1 host ∈ nw) (hset : (w s).set q0 (a, .inr (ci, fs.set k v)) = w s2) (hn : narrow ty v = v) (hfit : fits ty v = true) (d : decode cc pc = .ok (.putfield index, 3)) (kk : ∀ s1, GG p l e R s0 m args below meth c D cl tys A w nc ns Q (K s1) (F0 m (pc + 3) ls rest) s1) : GG p l e R s0 m args below meth c D cl tys A w nc ns Q (nm s2 K) (F0 m pc ls (v :: .ref a :: rest)) s := by
  intro r s' hr H locs h1 h2 h3
  rcases hlink with hl | ⟨host, hl⟩
  · exact va_put X.1.1 X.1.2.1 X.1.2.2.2.2 hin ty0 hty hnm X.1.2.2.2.1 X.2.2.2.1 h1 h2 h3 q0 he hc k hk (X.1.2.2.2.2 _ hl) (fun _ h => h) hfin hd hn hfit hl0 d (fun H1 locs1 g1 g2 g3 => kk s2 r s' hr H1 locs1 (by rw [← hset]; exact g1) (by rw [← hset]; exact g2) g3)
  · exact va_putN X.1.1 X.1.2.1 X.1.2.2.2.2 hin ty0 hty hnm X.1.2.2.2.1 X.2.2.2.1 h1 h2 h3 q0 he hc k hk (va_Nw.use rfl (X.2.2.2.2.2 _ hl)) (fun _ h => h) hfin hd hn hfit hl0 d (fun H1 locs1 g1 g2 g3 => kk s2 r s' hr H1 locs1 (by rw [← hset]; exact g1) (by rw [← hset]; exact g2) g3)
theorem gg_iald (X : CX p s0 m args meth c D cl tys nw A cc nL ret Ts own) (pc : Nat) {q0 t0 a n : Nat} {cA : ClassId} {f : Nat → Int32} {i : Int32} (he : (w s)[q0]? = some (a, .inl (cA, n, .inl f))) (ht : tys[t0]? = some (cA, .int)) (d : decode cc pc = .ok (.iaload, 1)) (kk : GG p l e R s0 m args below meth c D cl tys A w nc ns Q res (F0 m (pc + 1) ls (.int (f i.toNatClampNeg) :: rest)) s) : GG p l e R s0 m args below meth c D cl tys A w nc ns Q (ix i n res) (F0 m pc ls (.int i :: .ref a :: rest)) s := by
  intro r s' hr H locs h1 h2 h3
  unfold ix at hr
  by_cases hin : i < 0 ∨ n ≤ i.toNatClampNeg
  · rw [if_pos hin] at hr; cases hr
  · rw [if_neg hin] at hr
    exact va_iald X.1.1 X.1.2.1 X.2.2.2.1 h1 q0 t0 he ht hin d (kk r s' hr H locs h1 h2 h3)
theorem gg_zald (X : CX p s0 m args meth c D cl tys nw A cc nL ret Ts own) (pc : Nat) {q0 t0 a n : Nat} {cA : ClassId} {f : Nat → Int32} {i : Int32} (he : (w s)[q0]? = some (a, .inl (cA, n, .inl f))) (ht : tys[t0]? = some (cA, .boolean)) (d : decode cc pc = .ok (.baload, 1)) (kk : GG p l e R s0 m args below meth c D cl tys A w nc ns Q res (F0 m (pc + 1) ls (.int (f i.toNatClampNeg) :: rest)) s) : GG p l e R s0 m args below meth c D cl tys A w nc ns Q (ix i n res) (F0 m pc ls (.int i :: .ref a :: rest)) s := by
  intro r s' hr H locs h1 h2 h3
  unfold ix at hr
  by_cases hin : i < 0 ∨ n ≤ i.toNatClampNeg
  · rw [if_pos hin] at hr; cases hr
  · rw [if_neg hin] at hr
    exact va_zald X.1.1 X.1.2.1 X.2.2.2.1 h1 q0 t0 he ht hin d (kk r s' hr H locs h1 h2 h3)
theorem gg_aald (X : CX p s0 m args meth c D cl tys nw A cc nL ret Ts own) (pc : Nat) {q0 t0 a n : Nat} {cA : ClassId} {C : String} {f : Nat → Option Nat} {i : Int32} (he : (w s)[q0]? = some (a, .inl (cA, n, .inr (.inr (.inr (.inr f)))))) (ht : tys[t0]? = some (cA, .object C)) (d : decode cc pc = .ok (.aaload, 1)) (kk : vp_in i n → GG p l e R s0 m args below meth c D cl tys A w nc ns Q res (F0 m (pc + 1) ls (va_rf (f i.toNatClampNeg) :: rest)) s) : GG p l e R s0 m args below meth c D cl tys A w nc ns Q (ix i n res) (F0 m pc ls (.int i :: .ref a :: rest)) s := by
  intro r s' hr H locs h1 h2 h3
  unfold ix at hr
  by_cases hin : i < 0 ∨ n ≤ i.toNatClampNeg
  · rw [if_pos hin] at hr; cases hr
  · rw [if_neg hin] at hr
    exact va_aldq X.1.1 X.1.2.1 X.2.2.2.1 h1 q0 t0 he ht hin d (kk hin r s' hr H locs h1 h2 h3)
theorem gg_iast (X : CX p s0 m args meth c D cl tys nw A cc nL ret Ts own) (pc : Nat) {q0 t0 a n : Nat} {cA : ClassId} {f : Nat → Int32} {i x : Int32} {s2 : σ} {K : σ → Option (ρ × σ)} (he : (w s)[q0]? = some (a, .inl (cA, n, .inl f))) (ht : tys[t0]? = some (cA, .int)) (hset : (w s).set q0 (a, .inl (cA, n, .inl (upd f i.toNatClampNeg x))) = w s2) (d : decode cc pc = .ok (.iastore, 1)) (kk : ∀ s1, GG p l e R s0 m args below meth c D cl tys A w nc ns Q (K s1) (F0 m (pc + 1) ls rest) s1) : GG p l e R s0 m args below meth c D cl tys A w nc ns Q (ix i n (nm s2 K)) (F0 m pc ls (.int x :: .int i :: .ref a :: rest)) s := by
  intro r s' hr H locs h1 h2 h3
  unfold ix at hr
  by_cases hin : i < 0 ∨ n ≤ i.toNatClampNeg
  · rw [if_pos hin] at hr; cases hr
  · rw [if_neg hin] at hr
    exact va_iast X.1.1 X.1.2.1 X.2.2.2.1 h1 h2 h3 q0 t0 he ht hin d (fun H1 locs1 g1 g2 g3 => kk s2 r s' hr H1 locs1 (by rw [← hset]; exact g1) (by rw [← hset]; exact g2) g3)
theorem gg_zast (X : CX p s0 m args meth c D cl tys nw A cc nL ret Ts own) (pc : Nat) {q0 t0 a n : Nat} {cA : ClassId} {f : Nat → Int32} {i x : Int32} {s2 : σ} {K : σ → Option (ρ × σ)} (he : (w s)[q0]? = some (a, .inl (cA, n, .inl f))) (ht : tys[t0]? = some (cA, .boolean)) (hset : (w s).set q0 (a, .inl (cA, n, .inl (upd f i.toNatClampNeg (vp_nar .boolean x)))) = w s2) (d : decode cc pc = .ok (.bastore, 1)) (kk : ∀ s1, GG p l e R s0 m args below meth c D cl tys A w nc ns Q (K s1) (F0 m (pc + 1) ls rest) s1) : GG p l e R s0 m args below meth c D cl tys A w nc ns Q (ix i n (nm s2 K)) (F0 m pc ls (.int x :: .int i :: .ref a :: rest)) s := by
  intro r s' hr H locs h1 h2 h3
  unfold ix at hr
  by_cases hin : i < 0 ∨ n ≤ i.toNatClampNeg
  · rw [if_pos hin] at hr; cases hr
  · rw [if_neg hin] at hr
    exact va_zast X.1.1 X.1.2.1 X.2.2.2.1 h1 h2 h3 q0 t0 he ht hin d (fun H1 locs1 g1 g2 g3 => kk s2 r s' hr H1 locs1 (by rw [← hset]; exact g1) (by rw [← hset]; exact g2) g3)
theorem gg_alen (X : CX p s0 m args meth c D cl tys nw A cc nL ret Ts own) (pc : Nat) {q0 t0 a : Nat} {cA : ClassId} {x : vp_A} {ty : FieldType} (v : Int32) (he : (w s)[q0]? = some (a, .inl (cA, x))) (ht : tys[t0]? = some (cA, ty)) (hv : Int32.ofNat x.1 = v) (d : decode cc pc = .ok (.arraylength, 1)) (kk : GG p l e R s0 m args below meth c D cl tys A w nc ns Q res (F0 m (pc + 1) ls (.int v :: rest)) s) : GG p l e R s0 m args below meth c D cl tys A w nc ns Q res (F0 m pc ls (.ref a :: rest)) s := fun r s' hr H locs h1 h2 h3 => va_alen X.1.1 X.1.2.1 X.2.2.2.1 h1 q0 t0 he ht hv d (kk r s' hr H locs h1 h2 h3)
theorem gg_free (X : CX p s0 m args meth c D cl tys nw A cc nL ret Ts own) {H : Heap} {locs : List Loc} (h2 : va_D A (w s)) (h3 : va_S A s0.heap H locs) : ∀ q, va_A (w s) H.size q → A q := by
  intro q h
  rcases h with ⟨k, e, h⟩ | h
  · exact h2.2 k (q, e) h
  · exact X.2.2.2.2.1 q (Nat.le_trans h3.1 h)
theorem gg_run {ρ' : Type} (X : CX p s0 m args meth c D cl tys nw A cc nL ret Ts own) (pc : Nat) {rv' : ρ' → Option Value} {o : Option (ρ' × σ)} {K : ρ' → σ → Option (ρ × σ)} {st0 : List Value} {a : Array Value} (hr : ∀ r s1, o = some (r, s1) → ∀ (H : Heap) (locs : List Loc), va_P D cl (w s) H → va_D A (w s) → va_S A s0.heap H locs → va_Run p l e R s0 m args below meth c H locs nc ns 0 0 (F0 m pc ls st0) rest (Qx rv' w D cl tys (va_A (w s) H.size) r s1 a) (va_A (w s) H.size)) (kk : ∀ r s1, o = some (r, s1) → GG p l e R s0 m args below meth c D cl tys A w nc ns Q (K r s1) (F0 m (pc + 3) ls ((rv' r).toList ++ rest)) s1) : GG p l e R s0 m args below meth c D cl tys A w nc ns Q (bnd o K) (F0 m pc ls st0) s := by
  intro r s' hres H locs hP hD hS
  cases ho : o with
  | none => rw [ho] at hres; cases hres
  | some q =>
    obtain ⟨r1, s1⟩ := q
    rw [ho] at hres
    have hk := kk r1 s1 ho r s' hres
    have hrun := hr r1 s1 ho H locs hP hD hS
    have hfree := gg_free X hD hS
    intro T hT X0
    obtain ⟨v, st₀, t, T', L, h0, X', hL, e1, e2, ⟨hv, qP, qK, qD, hz, hkp⟩, st⟩ := hrun T hT X0
    cases hv
    rw [h0] at hz hkp
    obtain ⟨t2, a1, b1⟩ := hk T'.heap (locs ++ L) (by rw [e1]; exact qP) (qD.weaken (fun _ _ _ h => hfree _ h)) ⟨Nat.le_trans hS.1 (by rw [e1]; exact hz), fun q g1 g2 => by rw [e1, hkp q (Nat.lt_of_lt_of_le g1 hS.1) (fun z => g2 (hfree q z))]; exact hS.2.1 q g1 g2, fun q hq => by
      rcases List.mem_append.mp hq with h | h
      · exact hS.2.2 q h
      · exact hfree _ (hL q h)⟩ T' rfl X'
    exact ⟨t2, st t2 a1, b1⟩
def nwOne : Cond → Bool
  | .fieldLinkNest _ _ _ _ _ _ => true
  | .methodLinkNest _ _ _ _ => true
  | _ => false
def nwOk (nw : List Cond) : Bool := nw.all nwOne
theorem px_blind {sz : Nat} {av : List Value} (hg : nwOk nw = true) : FrameBlind (Px w D cl tys nw sz s av) := by
  intro a U g mk q
  obtain ⟨q0, q1, qP, qK, qD, qN⟩ := q
  exact ⟨q0, q1, qP, va_K.moved (u := U) (U := U.calling g mk a) (Vm.Alike.refl U.vm) qK, qD, fun x hx => by
    have h1 := qN x hx
    have h2 := List.all_eq_true.mp hg x hx
    cases x <;> first | exact va_Nw.same rfl (rfl : U.vm = (U.calling g mk a).vm) h1 | (exact absurd h2 (by simp [nwOne]))⟩
theorem nw_warm {U : State} (hg : nwOk nw = true) (hW : s0.WarmedH U.vm) (h : ∀ x ∈ nw, va_Nw x s0) : ∀ x ∈ nw, va_Nw x U := by
  intro x hx
  have h1 := h x hx
  have h2 := List.all_eq_true.mp hg x hx
  cases x <;> first | exact va_Nw.warmF hW h1 | exact va_Nw.warmM hW h1 | (exact absurd h2 (by simp [nwOne]))
theorem gg_callV {ρ' : Type} (X : CX p s0 m args meth c D cl tys nw A cc nL ret Ts own) (pc : Nat) {rv' : ρ' → Option Value} {o : Option (ρ' × σ)} {K : ρ' → σ → Option (ρ × σ)} {st0 : List Value} {q0 b ci N : Nat} {C : String} {T : u_T} {fs : List Value} {y : MethodName} {bytes : ByteArray} {maxL n index : Nat} {retc : Option FieldType} {ws : List Cond} {rm : Room} (hg : nwOk nw = true) (As : List Value) (rest : List Value) (hM : ∀ r s1, o = some (r, s1) → ∀ sz, Met l y ws rm (Px w D cl tys nw sz s (.ref b :: As)) (Qx rv' w D cl tys (va_A (w s) sz) r s1) 0 0 (va_A (w s) sz)) (cw : CallW R s0 args own C index y bytes maxL retc ws rm 0 0 n) (he : (w s)[q0]? = some (b, .inr (ci, fs))) (hc : cl[ci]? = some (C, T, N)) (hn : As.length = n) (hsize : ls.size = nL) (hst : st0 = As.reverse ++ .ref b :: rest) (hroom : (rest.map fun v => v.category).sum ≤ 8) (hR : nc + 0 ≤ R.cells ∧ ns + 0 ≤ R.slots) (d : decode cc pc = .ok (.invokevirtual index, 3)) (kk : ∀ r s1, o = some (r, s1) → GG p l e R s0 m args below meth c D cl tys A w nc ns Q (K r s1) (F0 m (pc + 3) ls ((rv' r).toList ++ rest)) s1) : GG p l e R s0 m args below meth c D cl tys A w nc ns Q (bnd o K) (F0 m pc ls st0) s :=
  gg_run X pc (fun r s1 ho H locs hP hD hS => va_runV (As := As) (rest := rest) X.1 (hM r s1 ho H.size) cw ⟨px_blind hg, va_recv X.2.2.2.1 hP hc he, fun U hU hW => ⟨rfl, by rw [hU], by rw [hU]; exact hP, va_K.moved hW.alike X.2.2.2.1, hD.weaken (fun _ _ _ _ => trivial), nw_warm hg hW X.2.2.2.2.2⟩⟩ rfl hn hsize hst (lv_room hroom) d hR) kk
theorem gg_callVN {ρ' : Type} (X : CX p s0 m args meth c D cl tys nw A cc nL ret Ts own) (pc : Nat) {rv' : ρ' → Option Value} {o : Option (ρ' × σ)} {K : ρ' → σ → Option (ρ × σ)} {st0 : List Value} {q0 b ci N : Nat} {C : String} {T : u_T} {fs : List Value} {y : MethodName} {bytes : ByteArray} {maxL n index : Nat} {retc : Option FieldType} {ws : List Cond} {rm : Room} {host : String} (hg : nwOk nw = true) (As : List Value) (rest : List Value) (hM : ∀ r s1, o = some (r, s1) → ∀ sz, Met l y ws rm (Px w D cl tys nw sz s (.ref b :: As)) (Qx rv' w D cl tys (va_A (w s) sz) r s1) 0 0 (va_A (w s) sz)) (cw : va_CN R s0 args own index y host bytes maxL retc ws rm 0 0 n ∧ (Cond.instanceMethod y).before args s0 = true ∧ (Cond.selects C y y).before args s0 = true) (he : (w s)[q0]? = some (b, .inr (ci, fs))) (hc : cl[ci]? = some (C, T, N)) (hn : As.length = n) (hsize : ls.size = nL) (hst : st0 = As.reverse ++ .ref b :: rest) (hroom : (rest.map fun v => v.category).sum ≤ 8) (hR : nc + 0 ≤ R.cells ∧ ns + 0 ≤ R.slots) (d : decode cc pc = .ok (.invokevirtual index, 3)) (kk : ∀ r s1, o = some (r, s1) → GG p l e R s0 m args below meth c D cl tys A w nc ns Q (K r s1) (F0 m (pc + 3) ls ((rv' r).toList ++ rest)) s1) : GG p l e R s0 m args below meth c D cl tys A w nc ns Q (bnd o K) (F0 m pc ls st0) s :=
  gg_run X pc (fun r s1 ho H locs hP hD hS => va_runVN (As := As) (rest := rest) X.1 (hM r s1 ho H.size) cw ⟨px_blind hg, va_recv X.2.2.2.1 hP hc he, fun U hU hW => ⟨rfl, by rw [hU], by rw [hU]; exact hP, va_K.moved hW.alike X.2.2.2.1, hD.weaken (fun _ _ _ _ => trivial), nw_warm hg hW X.2.2.2.2.2⟩⟩ rfl hn hsize hst (lv_room hroom) d hR) kk
theorem gg_callS {ρ' : Type} (X : CX p s0 m args meth c D cl tys nw A cc nL ret Ts own) (pc : Nat) {rv' : ρ' → Option Value} {o : Option (ρ' × σ)} {K : ρ' → σ → Option (ρ × σ)} {st0 : List Value}  {y : MethodName} {bytes : ByteArray} {maxL n index : Nat} {retc : Option FieldType} {ws : List Cond} {rm : Room} (hg : nwOk nw = true) (As : List Value) (rest : List Value) (hM : ∀ r s1, o = some (r, s1) → ∀ sz, Met l y ws rm (Px w D cl tys nw sz s As) (Qx rv' w D cl tys (va_A (w s) sz) r s1) 0 0 (va_A (w s) sz)) (cw : CallB R s0 args own index y bytes maxL retc ws rm 0 0 n ∧ (Cond.static y).before args s0 = true) (hn : As.length = n) (hsize : ls.size = nL) (hst : st0 = As.reverse ++ rest) (hroom : (rest.map fun v => v.category).sum ≤ 8) (hR : nc + 0 ≤ R.cells ∧ ns + 0 ≤ R.slots) (d : decode cc pc = .ok (.invokestatic index, 3)) (kk : ∀ r s1, o = some (r, s1) → GG p l e R s0 m args below meth c D cl tys A w nc ns Q (K r s1) (F0 m (pc + 3) ls ((rv' r).toList ++ rest)) s1) : GG p l e R s0 m args below meth c D cl tys A w nc ns Q (bnd o K) (F0 m pc ls st0) s :=
  gg_run X pc (fun r s1 ho H locs hP hD hS => va_runS (As := As) (rest := rest) X.1 (hM r s1 ho H.size) cw ⟨px_blind hg, fun U hU hW => ⟨rfl, by rw [hU], by rw [hU]; exact hP, va_K.moved hW.alike X.2.2.2.1, hD.weaken (fun _ _ _ _ => trivial), nw_warm hg hW X.2.2.2.2.2⟩⟩ rfl hn hsize hst (lv_room hroom) d hR) kk
theorem gg_callSN {ρ' : Type} (X : CX p s0 m args meth c D cl tys nw A cc nL ret Ts own) (pc : Nat) {rv' : ρ' → Option Value} {o : Option (ρ' × σ)} {K : ρ' → σ → Option (ρ × σ)} {st0 : List Value}  {y : MethodName} {bytes : ByteArray} {maxL n index : Nat} {retc : Option FieldType} {ws : List Cond} {rm : Room} {host : String} (hg : nwOk nw = true) (As : List Value) (rest : List Value) (hM : ∀ r s1, o = some (r, s1) → ∀ sz, Met l y ws rm (Px w D cl tys nw sz s As) (Qx rv' w D cl tys (va_A (w s) sz) r s1) 0 0 (va_A (w s) sz)) (cw : va_CN R s0 args own index y host bytes maxL retc ws rm 0 0 n ∧ (Cond.static y).before args s0 = true ∧ True) (hn : As.length = n) (hsize : ls.size = nL) (hst : st0 = As.reverse ++ rest) (hroom : (rest.map fun v => v.category).sum ≤ 8) (hR : nc + 0 ≤ R.cells ∧ ns + 0 ≤ R.slots) (d : decode cc pc = .ok (.invokestatic index, 3)) (kk : ∀ r s1, o = some (r, s1) → GG p l e R s0 m args below meth c D cl tys A w nc ns Q (K r s1) (F0 m (pc + 3) ls ((rv' r).toList ++ rest)) s1) : GG p l e R s0 m args below meth c D cl tys A w nc ns Q (bnd o K) (F0 m pc ls st0) s :=
  gg_run X pc (fun r s1 ho H locs hP hD hS => va_runSN (As := As) (rest := rest) X.1 (hM r s1 ho H.size) cw ⟨px_blind hg, fun U hU hW => ⟨rfl, by rw [hU], by rw [hU]; exact hP, va_K.moved hW.alike X.2.2.2.1, hD.weaken (fun _ _ _ _ => trivial), nw_warm hg hW X.2.2.2.2.2⟩⟩ rfl hn hsize hst (lv_room hroom) d hR) kk
theorem gg_show_i {pc : Nat} {r1 : Int32} (k : GG p l e R s0 m args below meth c D cl tys A w nc ns Q res (F0 m pc ls (.int r1 :: rest)) s) : GG p l e R s0 m args below meth c D cl tys A w nc ns Q res (F0 m pc ls ((rvI r1).toList ++ rest)) s := k
theorem gg_show_r {pc : Nat} {r1 : Nat} {ad : Nat → Nat} {b1 : Nat} (k : GG p l e R s0 m args below meth c D cl tys A w nc ns Q res (F0 m pc ls (.ref (ad (b1 + r1)) :: rest)) s) : GG p l e R s0 m args below meth c D cl tys A w nc ns Q res (F0 m pc ls ((rvR ad b1 r1).toList ++ rest)) s := k
theorem gg_show_v {pc : Nat} {r1 : Unit} (k : GG p l e R s0 m args below meth c D cl tys A w nc ns Q res (F0 m pc ls rest) s) : GG p l e R s0 m args below meth c D cl tys A w nc ns Q res (F0 m pc ls ((rvV r1).toList ++ rest)) s := k
end GGS
theorem met_of {l : Launch} {D : va_G} {cl : List vw_C} {tys : List (ClassId × FieldType)} {nw : List Cond} {σ : Type} {w : σ → va_W} {ρ : Type} {rv : ρ → Option Value} {res : Option (ρ × σ)} {s s' : σ} {r : ρ} {y : MethodName} {ws ws' : List Cond} {rm : Room} {cc : ByteArray} {nL : Nat} {ret : Option FieldType} {own : String} {sz : Nat} (av : List Value) (hy : plainName y.cls = true) (hw : ws = Cond.code y cc nL ret :: ws') (ho : y.cls = own) (hlen : (lg_sl av).length ≤ nL) (hF : res = some (r, s'))
    (body : ∀ (p : Program) (e : Env) (s0 : State) (m : MethodId) (args : Array Value) (below : List Frame) (meth : Method) (c : Code) (A : Nat → Prop) (ls : Array Slot), CX p s0 m args meth c D cl tys nw A cc nL ret ws own → lv_has ls nL (lv_args 0 av) → GG p l e rm s0 m args below meth c D cl tys A w 0 0 (QM below args s0 D cl tys A w rv) res (F0 m 0 ls []) s) :
    Met l y ws rm (Px w D cl tys nw sz s av) (Qx rv w D cl tys (va_A (w s) sz) r s') 0 0 (va_A (w s) sz) := by
  refine Met.ofW (cc := cc) (maxL := nL) (ret := ret) hy hw ?_
  intro p e s0 m args below meth c s₁ B hml hv
  obtain ⟨rfl, hsz, hP, hK, hD0, hN⟩ := hv
  have hts := atoms_spec (ws := ws) B.pre
  have hown : s0.vm.findClass own = some m.cls := by rw [← ho]; exact findClass_of_methodNamed B.named
  have hlocks := B.notSynchronized
  subst hsz
  have hD := hD0.self (sz := s0.heap.size)
  have hA : ∀ q : Nat, s0.heap.size ≤ q → va_A (w s) s0.heap.size q := fun q h => Or.inr h
  have hl := lv_entry av (n := nL) hlen
  rw [lg_entry_eq]
  exact body p e s0 m av.toArray below meth c _ _ ⟨⟨B.exec, B.bytes, hml, hown, hts⟩, B.returns, hlocks, hK, hA, hN⟩ hl r s' hF s0.heap [] hP hD va_S.rf
